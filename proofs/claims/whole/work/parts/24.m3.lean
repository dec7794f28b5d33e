/-! ===== the reference: the calls that change nothing ===== -/
theorem c_rightT {G : XE} (hG : x_Kn G) {B : XH} {I : Nat → Int32} {T : Int64} {S : Nat → Nat → Int32} {rd tx gv pl : Nat → Int32} (d : Nat) {p : Prop} [Decidable p] (hp : p) (h0 : I 0 = 0) {code : Int32} : x_M G mX11_right d 0 0 [.ref 275, .int (bI p), .int code] (mset B I T S rd tx gv pl) (x_Ret (mset B I T S rd tx gv pl) (.int 1)) x_noX := by
  by_cases hc : code = 0
  · refine X_M hG okX11_right rfl (L := [some (.ref 275), some (.int (bI p)), some (.int code)]) rfl (Nat.le_of_ble_eq_true rfl) (fun ad0 nb0 => ?_)
    rw [bI_t hp]
    refine X_ld rfl rfl rfl rfl ?_
    refine X_get f_X11_37 rfl rfl rfl ?_
    refine X_if_ne rfl (fun c => absurd h0 c) (fun _ => ?_)
    refine X_ld rfl rfl rfl rfl ?_
    refine X_if_ne rfl (fun c => ?_) (fun c => absurd c (by decide))
    refine X_ld rfl rfl rfl rfl ?_
    refine X_get f_X11_37 rfl rfl rfl ?_
    refine X_if_ne rfl (fun c3 => absurd h0 c3) (fun _ => ?_)
    refine X_push (v := .int 1) rfl (by decide +kernel) ?_
    refine X_goto rfl ?_
    exact X_zret rfl rfl rfl ⟨rfl, rfl⟩ (Nat.le_of_ble_eq_true rfl) (Nat.le_of_ble_eq_true rfl)
  · have h := c_right hG d (B := B) (I := I) (T := T) (S := S) (rd := rd) (tx := tx) (gv := gv) (pl := pl) (p := p) h0 hc
    rw [if_pos hp, bI_t hp] at h
    rw [bI_t hp]
    exact h
theorem c_rightF {G : XE} (hG : x_Kn G) {B : XH} {I : Nat → Int32} {T : Int64} {S : Nat → Nat → Int32} {rd tx gv pl : Nat → Int32} (d : Nat) {p : Prop} [Decidable p] (hp : ¬ p) (h0 : I 0 = 0) {code : Int32} (hc : ¬ code = 0) : x_M G mX11_right d 0 0 [.ref 275, .int (bI p), .int code] (mset B I T S rd tx gv pl) (x_Ret (mset B (upd I 0 code) T S rd tx gv pl) (.int 0)) x_noX := by
  have h := c_right hG d (B := B) (I := I) (T := T) (S := S) (rd := rd) (tx := tx) (gv := gv) (pl := pl) (p := p) h0 hc
  rw [if_neg hp, bI_f hp] at h
  rw [bI_f hp]
  exact h
theorem updI_I3 {I : Nat → Int32} {v : Int32} {w : Nat} (hw : I 3 = nI w) : upd I 0 v 3 = nI w := by rw [updI_ne (by decide)]; exact hw
abbrev s_fresh (c : Nat → Int32) (s : Nat) : Prop := ¬ s_st c s 14 = -2 ∧ s_st c s 16 = c 3
theorem c_isFresh {G : XE} (hG : x_Kn G) {B : XH} {I : Nat → Int32} {T : Int64} {S : Nat → Nat → Int32} {rd tx gv pl : Nat → Int32} (d : Nat) (w : Nat) (hw : I 3 = nI w) (hw9 : w < 9) (s : Nat) (hs : s < 6) {x : Int32} (hx : x = nI s) : x_M G mX11_isFresh (d + 2) 0 0 [.ref 275, .int x] (mset B I T S rd tx gv pl) (x_Ret (mset B I T S rd tx gv pl) (.int (bI (s_fresh (S w) s)))) x_noX := by
  refine X_M hG okX11_isFresh rfl (L := [some (.ref 275), some (.int x)]) rfl (Nat.le_of_ble_eq_true rfl) (fun ad0 nb0 => ?_)
  refine X_ld rfl rfl rfl rfl ?_
  refine X_ld rfl rfl rfl rfl ?_
  refine X_push (v := .int 14) rfl (by decide +kernel) ?_
  refine X_mcall l_X11_X11_ofStatement (c_ofStatement hG d w hw hw9 s 14 (by omega) hx (show (14 : Int32) = nI 14 from rfl)) rfl rfl rfl rfl (Nat.le_of_ble_eq_true rfl) (Nat.le_of_ble_eq_true rfl) (Nat.le_refl _) (Nat.le_of_ble_eq_true rfl) (Nat.le_of_ble_eq_true rfl) ?_
  refine X_push (v := .int (-2)) rfl (by decide +kernel) ?_
  refine X_icmp_eq rfl (fun c9 => ?_) (fun c9 => ?_)
  · refine X_push (v := .int 0) rfl (by decide +kernel) ?_
    exact X_zret rfl rfl rfl ⟨rfl, by rw [bI_f (fun q => q.1 c9)]⟩ (Nat.le_of_ble_eq_true rfl) (Nat.le_of_ble_eq_true rfl)
  · refine X_ld rfl rfl rfl rfl ?_
    refine X_ld rfl rfl rfl rfl ?_
    refine X_push (v := .int 16) rfl (by decide +kernel) ?_
    refine X_mcall l_X11_X11_ofStatement (c_ofStatement hG d w hw hw9 s 16 (by omega) hx (show (16 : Int32) = nI 16 from rfl)) rfl rfl rfl rfl (Nat.le_of_ble_eq_true rfl) (Nat.le_of_ble_eq_true rfl) (Nat.le_refl _) (Nat.le_of_ble_eq_true rfl) (Nat.le_of_ble_eq_true rfl) ?_
    refine X_ld rfl rfl rfl rfl ?_
    refine X_push (v := .int 3) rfl (by decide +kernel) ?_
    refine X_mcall l_X11_X11_get (c_get hG (d + 1) w hw hw9 3 (by omega) (show (3 : Int32) = nI 3 from rfl)) rfl rfl rfl rfl (Nat.le_of_ble_eq_true rfl) (Nat.le_of_ble_eq_true rfl) (Nat.le_refl _) (Nat.le_of_ble_eq_true rfl) (Nat.le_of_ble_eq_true rfl) ?_
    refine X_icmp_ne rfl (fun c24 => ?_) (fun c24 => ?_)
    · refine X_push (v := .int 0) rfl (by decide +kernel) ?_
      exact X_zret rfl rfl rfl ⟨rfl, by rw [bI_f (fun q => c24 q.2)]⟩ (Nat.le_of_ble_eq_true rfl) (Nat.le_of_ble_eq_true rfl)
    · refine X_push (v := .int 1) rfl (by decide +kernel) ?_
      refine X_goto rfl ?_
      exact X_zret rfl rfl rfl ⟨rfl, by rw [bI_t ⟨c9, c24⟩]⟩ (Nat.le_of_ble_eq_true rfl) (Nat.le_of_ble_eq_true rfl)
abbrev s_gen (c : Nat → Int32) (s : Nat) (cost : Int32) : Prop := cost.toInt64 * (s_st c s 9).toInt64 ≤ (s_st c s 10).toInt64
theorem c_isGeneric {G : XE} (hG : x_Kn G) {B : XH} {I : Nat → Int32} {T : Int64} {S : Nat → Nat → Int32} {rd tx gv pl : Nat → Int32} (d : Nat) (w : Nat) (hw : I 3 = nI w) (hw9 : w < 9) (s : Nat) (hs : s < 6) {x : Int32} (hx : x = nI s) {cost : Int32} : x_M G mX11_isGeneric (d + 2) 0 0 [.ref 275, .int x, .int cost] (mset B I T S rd tx gv pl) (x_Ret (mset B I T S rd tx gv pl) (.int (bI (s_gen (S w) s cost)))) x_noX := by
  refine X_M hG okX11_isGeneric rfl (L := [some (.ref 275), some (.int x), some (.int cost)]) rfl (Nat.le_of_ble_eq_true rfl) (fun ad0 nb0 => ?_)
  refine X_ld rfl rfl rfl rfl ?_
  refine X_un rfl rfl ?_
  refine X_ld rfl rfl rfl rfl ?_
  refine X_ld rfl rfl rfl rfl ?_
  refine X_push (v := .int 9) rfl (by decide +kernel) ?_
  refine X_mcall l_X11_X11_ofStatement (c_ofStatement hG d w hw hw9 s 9 (by omega) hx (show (9 : Int32) = nI 9 from rfl)) rfl rfl rfl rfl (Nat.le_of_ble_eq_true rfl) (Nat.le_of_ble_eq_true rfl) (Nat.le_refl _) (Nat.le_of_ble_eq_true rfl) (Nat.le_of_ble_eq_true rfl) ?_
  refine X_un rfl rfl ?_
  refine X_bin rfl rfl ?_
  refine X_ld rfl rfl rfl rfl ?_
  refine X_ld rfl rfl rfl rfl ?_
  refine X_push (v := .int 10) rfl (by decide +kernel) ?_
  refine X_mcall l_X11_X11_ofStatement (c_ofStatement hG d w hw hw9 s 10 (by omega) hx (show (10 : Int32) = nI 10 from rfl)) rfl rfl rfl rfl (Nat.le_of_ble_eq_true rfl) (Nat.le_of_ble_eq_true rfl) (Nat.le_refl _) (Nat.le_of_ble_eq_true rfl) (Nat.le_of_ble_eq_true rfl) ?_
  refine X_un rfl rfl ?_
  refine X_bin rfl rfl ?_
  refine X_if_gt rfl (fun c20 => ?_) (fun c20 => ?_)
  · refine X_push (v := .int 0) rfl (by decide +kernel) ?_
    exact X_zret rfl rfl rfl ⟨rfl, by rw [bI_f (fun q => absurd q (lg_lt_not_le (lg_gt0.mp c20)))]⟩ (Nat.le_of_ble_eq_true rfl) (Nat.le_of_ble_eq_true rfl)
  · refine X_push (v := .int 1) rfl (by decide +kernel) ?_
    refine X_goto rfl ?_
    exact X_zret rfl rfl rfl ⟨rfl, by rw [bI_t (m_ngt c20)]⟩ (Nat.le_of_ble_eq_true rfl) (Nat.le_of_ble_eq_true rfl)
theorem c_noColumnT {G : XE} (hG : x_Kn G) {B : XH} {I : Nat → Int32} {T : Int64} {S : Nat → Nat → Int32} {rd tx gv pl : Nat → Int32} (d : Nat) (w : Nat) (hw : I 3 = nI w) (hw9 : w < 9) (h0 : I 0 = 0) {x : Int32} (hp : (0 : Int32) ≤ x ∧ x ≤ S w 0 - 1) : x_M G mX11_noColumn (d + 1) 0 0 [.ref 275, .int x] (mset B I T S rd tx gv pl) (x_Ret (mset B I T S rd tx gv pl) (.int 0)) x_noX := by
  refine X_M hG okX11_noColumn rfl (L := [some (.ref 275), some (.int x)]) rfl (Nat.le_of_ble_eq_true rfl) (fun ad0 nb0 => ?_)
  refine X_ld rfl rfl rfl rfl ?_
  refine X_ld rfl rfl rfl rfl ?_
  refine X_un rfl rfl ?_
  refine X_push (v := .long 0) rfl (by decide +kernel) ?_
  refine X_ld rfl rfl rfl rfl ?_
  refine X_push (v := .int 0) rfl (by decide +kernel) ?_
  refine X_mcall l_X11_X11_get (c_get hG d w hw hw9 0 (by omega) (show (0 : Int32) = nI 0 from rfl)) rfl rfl rfl rfl (Nat.le_of_ble_eq_true rfl) (Nat.le_of_ble_eq_true rfl) (Nat.le_refl _) (Nat.le_of_ble_eq_true rfl) (Nat.le_of_ble_eq_true rfl) ?_
  refine X_push (v := .int 1) rfl (by decide +kernel) ?_
  refine X_bin rfl rfl ?_
  refine X_un rfl rfl ?_
  refine X_scall l_X11_X11_isIn (c_isIn hG d (x := x) (y := 0) (z := (S w 0) - 1) rfl (by decide) rfl) rfl rfl rfl (Nat.le_of_ble_eq_true rfl) (Nat.le_of_ble_eq_true rfl) (Nat.le_refl _) (Nat.le_of_ble_eq_true rfl) (Nat.le_of_ble_eq_true rfl) ?_
  refine X_push (v := .int 1) rfl (by decide +kernel) ?_
  refine X_mcall l_X11_X11_right (c_rightT hG d hp h0) rfl rfl rfl rfl (Nat.le_of_ble_eq_true rfl) (Nat.le_of_ble_eq_true rfl) (Nat.le_refl _) (Nat.le_of_ble_eq_true rfl) (Nat.le_of_ble_eq_true rfl) ?_
  refine X_if_ne rfl (fun c19 => ?_) (fun c19 => absurd c19 (by decide))
  refine X_push (v := .int 0) rfl (by decide +kernel) ?_
  exact X_zret rfl rfl rfl ⟨rfl, rfl⟩ (Nat.le_of_ble_eq_true rfl) (Nat.le_of_ble_eq_true rfl)
theorem c_noColumnF {G : XE} (hG : x_Kn G) {B : XH} {I : Nat → Int32} {T : Int64} {S : Nat → Nat → Int32} {rd tx gv pl : Nat → Int32} (d : Nat) (w : Nat) (hw : I 3 = nI w) (hw9 : w < 9) (h0 : I 0 = 0) {x : Int32} (hp : ¬ ((0 : Int32) ≤ x ∧ x ≤ S w 0 - 1)) : x_M G mX11_noColumn (d + 1) 0 0 [.ref 275, .int x] (mset B I T S rd tx gv pl) (x_Ret (mset B (upd I 0 1) T S rd tx gv pl) (.int 1)) x_noX := by
  refine X_M hG okX11_noColumn rfl (L := [some (.ref 275), some (.int x)]) rfl (Nat.le_of_ble_eq_true rfl) (fun ad0 nb0 => ?_)
  refine X_ld rfl rfl rfl rfl ?_
  refine X_ld rfl rfl rfl rfl ?_
  refine X_un rfl rfl ?_
  refine X_push (v := .long 0) rfl (by decide +kernel) ?_
  refine X_ld rfl rfl rfl rfl ?_
  refine X_push (v := .int 0) rfl (by decide +kernel) ?_
  refine X_mcall l_X11_X11_get (c_get hG d w hw hw9 0 (by omega) (show (0 : Int32) = nI 0 from rfl)) rfl rfl rfl rfl (Nat.le_of_ble_eq_true rfl) (Nat.le_of_ble_eq_true rfl) (Nat.le_refl _) (Nat.le_of_ble_eq_true rfl) (Nat.le_of_ble_eq_true rfl) ?_
  refine X_push (v := .int 1) rfl (by decide +kernel) ?_
  refine X_bin rfl rfl ?_
  refine X_un rfl rfl ?_
  refine X_scall l_X11_X11_isIn (c_isIn hG d (x := x) (y := 0) (z := (S w 0) - 1) rfl (by decide) rfl) rfl rfl rfl (Nat.le_of_ble_eq_true rfl) (Nat.le_of_ble_eq_true rfl) (Nat.le_refl _) (Nat.le_of_ble_eq_true rfl) (Nat.le_of_ble_eq_true rfl) ?_
  refine X_push (v := .int 1) rfl (by decide +kernel) ?_
  refine X_mcall l_X11_X11_right (c_rightF hG d hp h0 (by decide)) rfl rfl rfl rfl (Nat.le_of_ble_eq_true rfl) (Nat.le_of_ble_eq_true rfl) (Nat.le_refl _) (Nat.le_of_ble_eq_true rfl) (Nat.le_of_ble_eq_true rfl) ?_
  refine X_if_ne rfl (fun c19 => absurd (by decide) c19) (fun c19 => ?_)
  refine X_push (v := .int 1) rfl (by decide +kernel) ?_
  refine X_goto rfl ?_
  exact X_zret rfl rfl rfl ⟨rfl, rfl⟩ (Nat.le_of_ble_eq_true rfl) (Nat.le_of_ble_eq_true rfl)
theorem c_noStatementT {G : XE} (hG : x_Kn G) {B : XH} {I : Nat → Int32} {T : Int64} {S : Nat → Nat → Int32} {rd tx gv pl : Nat → Int32} (d : Nat) (w : Nat) (hw : I 3 = nI w) (hw9 : w < 9) {x : Int32} (hp : (0 : Int32) ≤ x ∧ x ≤ S w 2 - 1) : x_M G mX11_noStatement (d + 1) 0 0 [.ref 275, .int x] (mset B I T S rd tx gv pl) (x_Ret (mset B (upd I 0 0) T S rd tx gv pl) (.int 0)) x_noX := by
  refine X_M hG okX11_noStatement rfl (L := [some (.ref 275), some (.int x)]) rfl (Nat.le_of_ble_eq_true rfl) (fun ad0 nb0 => ?_)
  refine X_ld rfl rfl rfl rfl ?_
  refine X_push (v := .int 0) rfl (by decide +kernel) ?_
  refine X_mput f_X11_37 rfl rfl ?_
  refine X_ld rfl rfl rfl rfl ?_
  refine X_ld rfl rfl rfl rfl ?_
  refine X_un rfl rfl ?_
  refine X_push (v := .long 0) rfl (by decide +kernel) ?_
  refine X_ld rfl rfl rfl rfl ?_
  refine X_push (v := .int 2) rfl (by decide +kernel) ?_
  refine X_mcall l_X11_X11_get (c_get hG d w (updI_I3 hw) hw9 2 (by omega) (show (2 : Int32) = nI 2 from rfl)) rfl rfl rfl rfl (Nat.le_of_ble_eq_true rfl) (Nat.le_of_ble_eq_true rfl) (Nat.le_refl _) (Nat.le_of_ble_eq_true rfl) (Nat.le_of_ble_eq_true rfl) ?_
  refine X_push (v := .int 1) rfl (by decide +kernel) ?_
  refine X_bin rfl rfl ?_
  refine X_un rfl rfl ?_
  refine X_scall l_X11_X11_isIn (c_isIn hG d (x := x) (y := 0) (z := (S w 2) - 1) rfl (by decide) rfl) rfl rfl rfl (Nat.le_of_ble_eq_true rfl) (Nat.le_of_ble_eq_true rfl) (Nat.le_refl _) (Nat.le_of_ble_eq_true rfl) (Nat.le_of_ble_eq_true rfl) ?_
  refine X_push (v := .int 1) rfl (by decide +kernel) ?_
  refine X_mcall l_X11_X11_right (c_rightT hG d hp updI_eq) rfl rfl rfl rfl (Nat.le_of_ble_eq_true rfl) (Nat.le_of_ble_eq_true rfl) (Nat.le_refl _) (Nat.le_of_ble_eq_true rfl) (Nat.le_of_ble_eq_true rfl) ?_
  refine X_if_ne rfl (fun c24 => ?_) (fun c24 => absurd c24 (by decide))
  refine X_push (v := .int 0) rfl (by decide +kernel) ?_
  exact X_zret rfl rfl rfl ⟨rfl, rfl⟩ (Nat.le_of_ble_eq_true rfl) (Nat.le_of_ble_eq_true rfl)
theorem c_noStatementF {G : XE} (hG : x_Kn G) {B : XH} {I : Nat → Int32} {T : Int64} {S : Nat → Nat → Int32} {rd tx gv pl : Nat → Int32} (d : Nat) (w : Nat) (hw : I 3 = nI w) (hw9 : w < 9) {x : Int32} (hp : ¬ ((0 : Int32) ≤ x ∧ x ≤ S w 2 - 1)) : x_M G mX11_noStatement (d + 1) 0 0 [.ref 275, .int x] (mset B I T S rd tx gv pl) (x_Ret (mset B (upd I 0 1) T S rd tx gv pl) (.int 1)) x_noX := by
  refine X_M hG okX11_noStatement rfl (L := [some (.ref 275), some (.int x)]) rfl (Nat.le_of_ble_eq_true rfl) (fun ad0 nb0 => ?_)
  refine X_ld rfl rfl rfl rfl ?_
  refine X_push (v := .int 0) rfl (by decide +kernel) ?_
  refine X_mput f_X11_37 rfl rfl ?_
  refine X_ld rfl rfl rfl rfl ?_
  refine X_ld rfl rfl rfl rfl ?_
  refine X_un rfl rfl ?_
  refine X_push (v := .long 0) rfl (by decide +kernel) ?_
  refine X_ld rfl rfl rfl rfl ?_
  refine X_push (v := .int 2) rfl (by decide +kernel) ?_
  refine X_mcall l_X11_X11_get (c_get hG d w (updI_I3 hw) hw9 2 (by omega) (show (2 : Int32) = nI 2 from rfl)) rfl rfl rfl rfl (Nat.le_of_ble_eq_true rfl) (Nat.le_of_ble_eq_true rfl) (Nat.le_refl _) (Nat.le_of_ble_eq_true rfl) (Nat.le_of_ble_eq_true rfl) ?_
  refine X_push (v := .int 1) rfl (by decide +kernel) ?_
  refine X_bin rfl rfl ?_
  refine X_un rfl rfl ?_
  refine X_scall l_X11_X11_isIn (c_isIn hG d (x := x) (y := 0) (z := (S w 2) - 1) rfl (by decide) rfl) rfl rfl rfl (Nat.le_of_ble_eq_true rfl) (Nat.le_of_ble_eq_true rfl) (Nat.le_refl _) (Nat.le_of_ble_eq_true rfl) (Nat.le_of_ble_eq_true rfl) ?_
  refine X_push (v := .int 1) rfl (by decide +kernel) ?_
  refine X_mcall l_X11_X11_right (c_rightF hG d hp updI_eq (by decide)) rfl rfl rfl rfl (Nat.le_of_ble_eq_true rfl) (Nat.le_of_ble_eq_true rfl) (Nat.le_refl _) (Nat.le_of_ble_eq_true rfl) (Nat.le_of_ble_eq_true rfl) ?_
  refine X_heap (N' := mset B (upd I 0 1) T S rd tx gv pl) (by rw [upd_upd]) ?_
  refine X_if_ne rfl (fun c24 => absurd (by decide) c24) (fun c24 => ?_)
  refine X_push (v := .int 1) rfl (by decide +kernel) ?_
  refine X_goto rfl ?_
  exact X_zret rfl rfl rfl ⟨rfl, rfl⟩ (Nat.le_of_ble_eq_true rfl) (Nat.le_of_ble_eq_true rfl)
def s_cm (c : Nat → Int32) : Nat := (c 0).toNatClampNeg
def s_lm (c : Nat → Int32) : Nat := (c 1).toNatClampNeg
def s_sm (c : Nat → Int32) : Nat := (c 2).toNatClampNeg
/-- a column's numbers -/
def s_colok (c : Nat → Int32) (j : Nat) : Prop :=
  (s_col c j 8 = 0 ∨ s_col c j 8 = 1 ∨ s_col c j 8 = 2) ∧ (s_col c j 9 = 0 ∨ s_col c j 9 = 1) ∧ (∃ u, u ≤ 40 ∧ s_col c j 10 = nI u ∧ (¬ c 8 = 0 → 1 ≤ u)) ∧ ∃ a b, a ≤ b ∧ b ≤ 9999 ∧ s_col c j 11 = nI a ∧ s_col c j 12 = nI b
/-- a comparison's code -/
def s_cmpok (c : Nat → Int32) (k : Nat) : Prop :=
  (∃ j, j < s_cm c ∧ s_cod c k 1 = nI j) ∧ (s_cod c k 2 = 60 ∨ s_cod c k 2 = 61 ∨ s_cod c k 2 = 62) ∧ ((s_cod c k 3 = 0 ∧ ∃ v, v ≤ 9999 ∧ s_cod c k 4 = nI v) ∨ (s_cod c k 3 = 1 ∧ ∃ j, j < s_cm c ∧ s_cod c k 4 = nI j) ∨ (s_cod c k 3 = 2 ∧ ∃ h, h < 4 ∧ s_cod c k 4 = nI h))
/-- a statement's codes -/
def s_stok (c : Nat → Int32) (s : Nat) : Prop :=
  (∃ f t, f ≤ t ∧ t < 325 ∧ s_st c s 26 = nI f ∧ s_st c s 27 = nI t) ∧ s_fok c s ∧ (∀ k, s_from c s ≤ k → k < s_to c s → s_cod c k 0 = 0 → s_cmpok c k)
/-- what a plan that is kept may be -/
def s_kpok (c : Nat → Int32) (s : Nat) : Prop := s_st c s 14 = -2 ∨ s_st c s 14 = -1 ∨ ∃ j, j < s_cm c ∧ s_st c s 14 = nI j
/-- a row of the reference as calls make it -/
def s_wf (c : Nat → Int32) : Prop :=
  ((∃ m, m ≤ 5 ∧ c 0 = nI m) ∧ (∃ m, m ≤ 40 ∧ c 1 = nI m) ∧ (∃ m, m ≤ 6 ∧ c 2 = nI m) ∧ (∃ m, m ≤ 40 ∧ c 8 = nI m)) ∧ (∀ j, j < s_cm c → s_colok c j) ∧ (∀ s, s < s_sm c → s_stok c s) ∧ (∀ s, s < s_sm c → s_kpok c s)
theorem s_wf.cm {c : Nat → Int32} (h : s_wf c) : ∃ m, m ≤ 5 ∧ c 0 = nI m := h.1.1
theorem s_wf.lm {c : Nat → Int32} (h : s_wf c) : ∃ m, m ≤ 40 ∧ c 1 = nI m := h.1.2.1
theorem s_wf.sm {c : Nat → Int32} (h : s_wf c) : ∃ m, m ≤ 6 ∧ c 2 = nI m := h.1.2.2.1
theorem s_wf.seen {c : Nat → Int32} (h : s_wf c) : ∃ m, m ≤ 40 ∧ c 8 = nI m := h.1.2.2.2
theorem s_wf.col {c : Nat → Int32} (h : s_wf c) : ∀ j, j < s_cm c → s_colok c j := h.2.1
theorem s_wf.st {c : Nat → Int32} (h : s_wf c) : ∀ s, s < s_sm c → s_stok c s := h.2.2.1
theorem s_wf.kp {c : Nat → Int32} (h : s_wf c) : ∀ s, s < s_sm c → s_kpok c s := h.2.2.2
theorem s_wf.cmE {c : Nat → Int32} (h : s_wf c) : c 0 = nI (s_cm c) ∧ s_cm c ≤ 5 := by
  obtain ⟨m, h1, h2⟩ := h.cm
  have e : s_cm c = m := by unfold s_cm; rw [h2]; exact nI_clamp (by omega)
  rw [e]; exact ⟨h2, h1⟩
theorem s_wf.lmE {c : Nat → Int32} (h : s_wf c) : c 1 = nI (s_lm c) ∧ s_lm c ≤ 40 := by
  obtain ⟨m, h1, h2⟩ := h.lm
  have e : s_lm c = m := by unfold s_lm; rw [h2]; exact nI_clamp (by omega)
  rw [e]; exact ⟨h2, h1⟩
theorem s_wf.smE {c : Nat → Int32} (h : s_wf c) : c 2 = nI (s_sm c) ∧ s_sm c ≤ 6 := by
  obtain ⟨m, h1, h2⟩ := h.sm
  have e : s_sm c = m := by unfold s_sm; rw [h2]; exact nI_clamp (by omega)
  rw [e]; exact ⟨h2, h1⟩
theorem s_wf.kok {c : Nat → Int32} (h : s_wf c) {s : Nat} (hs : s < s_sm c) : s_kok c s := by
  obtain ⟨h1, -, h3⟩ := h.st s hs
  refine ⟨h1, fun k hk1 hk2 h0 => ?_⟩
  obtain ⟨⟨j, hj1, hj2⟩, -, hw⟩ := h3 k hk1 hk2 h0
  obtain ⟨-, -, ⟨u, hu0, hu1, hu2⟩, a, b, hab, hb, ha1, hb1⟩ := h.col j hj1
  refine ⟨j, Nat.lt_of_lt_of_le hj1 h.cmE.2, hj2, fun hk => ?_, fun h8 => ?_, ?_⟩
  · rcases hw with ⟨e, -⟩ | ⟨e, -⟩ | ⟨-, hh⟩
    · rw [e] at hk; exact absurd hk (by decide)
    · rw [e] at hk; exact absurd hk (by decide)
    · exact hh
  · rw [hu1]
    exact fun q => absurd ((n_eq (b := 0) rfl rfl (by omega) (by omega)).mp q) (by have := hu2 h8; omega)
  · rw [ha1, hb1, m_subc hab rfl]
    exact fun q => absurd ((n_eq (b := 0) (m_inc rfl) rfl (by omega) (by omega)).mp q) (by omega)
theorem s_wf.fok {c : Nat → Int32} (h : s_wf c) {s : Nat} (hs : s < s_sm c) : s_fok c s := (h.st s hs).2.1
theorem a_ret {B : XH} {I : Nat → Int32} {T : Int64} {S : Nat → Nat → Int32} {rd tx gv pl : Nat → Int32} {A : Int32 × Int32} {t v : Int32} (h : A = (t, v)) : x_Ret (mset B (upd I 0 A.1) T S rd tx gv pl) (.int A.2) (mset B (upd I 0 t) T S rd tx gv pl) (some (.int v)) := by rw [h]; exact ⟨rfl, rfl⟩
abbrev n_ (x : Int32) : Nat := x.toNatClampNeg
def a_count (c : Nat → Int32) (x : Int32) : Int32 × Int32 := if (0 : Int32) ≤ x ∧ x ≤ 8 then (0, c (n_ x)) else (1, 0)
theorem c_count {G : XE} (hG : x_Kn G) {B : XH} {I : Nat → Int32} {T : Int64} {S : Nat → Nat → Int32} {rd tx gv pl : Nat → Int32} (d : Nat) (w : Nat) (hw : I 3 = nI w) (hw9 : w < 9) {x : Int32} : x_M G mX11_count (d + 1) 0 0 [.ref 275, .int x] (mset B I T S rd tx gv pl) (x_Ret (mset B (upd I 0 (a_count (S w) x).1) T S rd tx gv pl) (.int (a_count (S w) x).2)) x_noX := by
  refine X_M hG okX11_count rfl (L := [some (.ref 275), some (.int x)]) rfl (Nat.le_of_ble_eq_true rfl) (fun ad0 nb0 => ?_)
  refine X_ld rfl rfl rfl rfl ?_
  refine X_push (v := .int 0) rfl (by decide +kernel) ?_
  refine X_mput f_X11_37 rfl rfl ?_
  refine X_ld rfl rfl rfl rfl ?_
  refine X_ld rfl rfl rfl rfl ?_
  refine X_un rfl rfl ?_
  refine X_push (v := .long 0) rfl (by decide +kernel) ?_
  refine X_ldc2 k_X11_292 rfl ?_
  refine X_scall l_X11_X11_isIn (c_isIn hG d (x := x) (y := 0) (z := 8) rfl (by decide) (by decide)) rfl rfl rfl (Nat.le_of_ble_eq_true rfl) (Nat.le_of_ble_eq_true rfl) (Nat.le_refl _) (Nat.le_of_ble_eq_true rfl) (Nat.le_of_ble_eq_true rfl) ?_
  refine X_push (v := .int 1) rfl (by decide +kernel) ?_
  by_cases h16 : (0 : Int32) ≤ x ∧ x ≤ 8
  · refine X_mcall l_X11_X11_right (c_rightT hG d h16 updI_eq) rfl rfl rfl rfl (Nat.le_of_ble_eq_true rfl) (Nat.le_of_ble_eq_true rfl) (Nat.le_refl _) (Nat.le_of_ble_eq_true rfl) (Nat.le_of_ble_eq_true rfl) ?_
    refine X_if_eq rfl (fun c19 => absurd c19 (by decide)) (fun c19 => ?_)
    obtain ⟨j, hj1, hj2⟩ := m_rngc (m := 8) rfl (by omega) h16
    have ej : n_ x = j := by unfold n_; rw [hj2]; exact nI_clamp (by omega)
    refine X_ld rfl rfl rfl rfl ?_
    refine X_ld rfl rfl rfl rfl ?_
    refine X_mcall l_X11_X11_get (c_get hG d w (updI_I3 hw) hw9 j (by omega) hj2) rfl rfl rfl rfl (Nat.le_of_ble_eq_true rfl) (Nat.le_of_ble_eq_true rfl) (Nat.le_refl _) (Nat.le_of_ble_eq_true rfl) (Nat.le_of_ble_eq_true rfl) ?_
    refine X_goto rfl ?_
    exact X_iret rfl rfl (a_ret (by unfold a_count; rw [if_pos h16, ej])) (Nat.le_of_ble_eq_true rfl) (Nat.le_of_ble_eq_true rfl)
  · refine X_mcall l_X11_X11_right (c_rightF hG d h16 updI_eq (by decide)) rfl rfl rfl rfl (Nat.le_of_ble_eq_true rfl) (Nat.le_of_ble_eq_true rfl) (Nat.le_refl _) (Nat.le_of_ble_eq_true rfl) (Nat.le_of_ble_eq_true rfl) ?_
    refine X_heap (N' := mset B (upd I 0 1) T S rd tx gv pl) (by rw [upd_upd]) ?_
    refine X_if_eq rfl (fun c19 => ?_) (fun c19 => absurd (by decide) c19)
    refine X_push (v := .int 0) rfl (by decide +kernel) ?_
    exact X_iret rfl rfl (a_ret (by unfold a_count; rw [if_neg h16])) (Nat.le_of_ble_eq_true rfl) (Nat.le_of_ble_eq_true rfl)
def a_column (c : Nat → Int32) (x y : Int32) : Int32 × Int32 :=
  if (0 : Int32) ≤ x ∧ x ≤ c 0 - 1 then (if (0 : Int32) ≤ y ∧ y ≤ 4 then (0, s_col c (n_ x) (8 + n_ y)) else (2, 0)) else (1, 0)
theorem c_column {G : XE} (hG : x_Kn G) {B : XH} {I : Nat → Int32} {T : Int64} {S : Nat → Nat → Int32} {rd tx gv pl : Nat → Int32} (d : Nat) (w : Nat) (hw : I 3 = nI w) (hw9 : w < 9) (hwf : s_wf (S w)) {x y : Int32} : x_M G mX11_column (d + 2) 0 0 [.ref 275, .int x, .int y] (mset B I T S rd tx gv pl) (x_Ret (mset B (upd I 0 (a_column (S w) x y).1) T S rd tx gv pl) (.int (a_column (S w) x y).2)) x_noX := by
  refine X_M hG okX11_column rfl (L := [some (.ref 275), some (.int x), some (.int y)]) rfl (Nat.le_of_ble_eq_true rfl) (fun ad0 nb0 => ?_)
  have hcm5 := hwf.cmE.2
  have hlm40 := hwf.lmE.2
  have hsm6 := hwf.smE.2
  refine X_ld rfl rfl rfl rfl ?_
  refine X_push (v := .int 0) rfl (by decide +kernel) ?_
  refine X_mput f_X11_37 rfl rfl ?_
  refine X_ld rfl rfl rfl rfl ?_
  refine X_ld rfl rfl rfl rfl ?_
  by_cases h7 : (0 : Int32) ≤ x ∧ x ≤ S w 0 - 1
  · refine X_mcall l_X11_X11_noColumn (c_noColumnT hG d w (updI_I3 hw) hw9 updI_eq h7) rfl rfl rfl rfl (Nat.le_of_ble_eq_true rfl) (Nat.le_of_ble_eq_true rfl) (Nat.le_refl _) (Nat.le_of_ble_eq_true rfl) (Nat.le_of_ble_eq_true rfl) ?_
    refine X_if_ne rfl (fun c10 => absurd (by decide) c10) (fun c10 => ?_)
    refine X_ld rfl rfl rfl rfl ?_
    refine X_ld rfl rfl rfl rfl ?_
    refine X_un rfl rfl ?_
    refine X_push (v := .long 0) rfl (by decide +kernel) ?_
    refine X_ldc2 k_X11_297 rfl ?_
    refine X_scall l_X11_X11_isIn (c_isIn hG (d + 1) (x := y) (y := 0) (z := 4) rfl (by decide) (by decide)) rfl rfl rfl (Nat.le_of_ble_eq_true rfl) (Nat.le_of_ble_eq_true rfl) (Nat.le_refl _) (Nat.le_of_ble_eq_true rfl) (Nat.le_of_ble_eq_true rfl) ?_
    refine X_push (v := .int 2) rfl (by decide +kernel) ?_
    by_cases h24 : (0 : Int32) ≤ y ∧ y ≤ 4
    · refine X_mcall l_X11_X11_right (c_rightT hG (d + 1) h24 updI_eq) rfl rfl rfl rfl (Nat.le_of_ble_eq_true rfl) (Nat.le_of_ble_eq_true rfl) (Nat.le_refl _) (Nat.le_of_ble_eq_true rfl) (Nat.le_of_ble_eq_true rfl) ?_
      refine X_if_ne rfl (fun c27 => ?_) (fun c27 => absurd c27 (by decide))
      obtain ⟨j, hj1, hj2⟩ := m_rng hwf.cmE.1 (by have := hwf.cmE.2; omega) h7
      have ej : n_ x = j := by unfold n_; rw [hj2]; exact nI_clamp (by omega)
      obtain ⟨q, hq1, hq2⟩ := m_rngc (m := 4) rfl (by omega) h24
      have eq : n_ y = q := by unfold n_; rw [hq2]; exact nI_clamp (by omega)
      refine X_ld rfl rfl rfl rfl ?_
      refine X_ld rfl rfl rfl rfl ?_
      refine X_push (v := .int 8) rfl (by decide +kernel) ?_
      refine X_ld rfl rfl rfl rfl ?_
      refine X_bin rfl rfl ?_
      refine X_mcall l_X11_X11_ofColumn (c_ofColumn hG d w (updI_I3 hw) hw9 j (8 + q) (by omega) hj2 (m_add (show (8 : Int32) = nI 8 from rfl) hq2)) rfl rfl rfl rfl (Nat.le_of_ble_eq_true rfl) (Nat.le_of_ble_eq_true rfl) (Nat.le_refl _) (Nat.le_of_ble_eq_true rfl) (Nat.le_of_ble_eq_true rfl) ?_
      exact X_iret rfl rfl (a_ret (by unfold a_column; rw [if_pos h7, if_pos h24, ej, eq])) (Nat.le_of_ble_eq_true rfl) (Nat.le_of_ble_eq_true rfl)
    · refine X_mcall l_X11_X11_right (c_rightF hG (d + 1) h24 updI_eq (by decide)) rfl rfl rfl rfl (Nat.le_of_ble_eq_true rfl) (Nat.le_of_ble_eq_true rfl) (Nat.le_refl _) (Nat.le_of_ble_eq_true rfl) (Nat.le_of_ble_eq_true rfl) ?_
      refine X_heap (N' := mset B (upd I 0 2) T S rd tx gv pl) (by rw [upd_upd]) ?_
      refine X_if_ne rfl (fun c27 => absurd (by decide) c27) (fun c27 => ?_)
      refine X_push (v := .int 0) rfl (by decide +kernel) ?_
      refine X_goto rfl ?_
      exact X_iret rfl rfl (a_ret (by unfold a_column; rw [if_pos h7, if_neg h24])) (Nat.le_of_ble_eq_true rfl) (Nat.le_of_ble_eq_true rfl)
  · refine X_mcall l_X11_X11_noColumn (c_noColumnF hG d w (updI_I3 hw) hw9 updI_eq h7) rfl rfl rfl rfl (Nat.le_of_ble_eq_true rfl) (Nat.le_of_ble_eq_true rfl) (Nat.le_refl _) (Nat.le_of_ble_eq_true rfl) (Nat.le_of_ble_eq_true rfl) ?_
    refine X_heap (N' := mset B (upd I 0 1) T S rd tx gv pl) (by rw [upd_upd]) ?_
    refine X_if_ne rfl (fun c10 => ?_) (fun c10 => absurd c10 (by decide))
    refine X_push (v := .int 0) rfl (by decide +kernel) ?_
    refine X_goto rfl ?_
    exact X_iret rfl rfl (a_ret (by unfold a_column; rw [if_neg h7])) (Nat.le_of_ble_eq_true rfl) (Nat.le_of_ble_eq_true rfl)
def a_value (c : Nat → Int32) (x y : Int32) : Int32 × Int32 :=
  if (0 : Int32) ≤ x ∧ x ≤ c 1 - 1 then (if (0 : Int32) ≤ y ∧ y ≤ c 0 - 1 then (0, s_val c (n_ x) (n_ y)) else (1, 0)) else (1, 0)
theorem c_value {G : XE} (hG : x_Kn G) {B : XH} {I : Nat → Int32} {T : Int64} {S : Nat → Nat → Int32} {rd tx gv pl : Nat → Int32} (d : Nat) (w : Nat) (hw : I 3 = nI w) (hw9 : w < 9) (hwf : s_wf (S w)) {x y : Int32} : x_M G mX11_value (d + 2) 0 0 [.ref 275, .int x, .int y] (mset B I T S rd tx gv pl) (x_Ret (mset B (upd I 0 (a_value (S w) x y).1) T S rd tx gv pl) (.int (a_value (S w) x y).2)) x_noX := by
  refine X_M hG okX11_value rfl (L := [some (.ref 275), some (.int x), some (.int y)]) rfl (Nat.le_of_ble_eq_true rfl) (fun ad0 nb0 => ?_)
  have hcm5 := hwf.cmE.2
  have hlm40 := hwf.lmE.2
  have hsm6 := hwf.smE.2
  refine X_ld rfl rfl rfl rfl ?_
  refine X_push (v := .int 0) rfl (by decide +kernel) ?_
  refine X_mput f_X11_37 rfl rfl ?_
  refine X_ld rfl rfl rfl rfl ?_
  refine X_ld rfl rfl rfl rfl ?_
  refine X_un rfl rfl ?_
  refine X_push (v := .long 0) rfl (by decide +kernel) ?_
  refine X_ld rfl rfl rfl rfl ?_
  refine X_push (v := .int 1) rfl (by decide +kernel) ?_
  refine X_mcall l_X11_X11_get (c_get hG (d + 1) w (updI_I3 hw) hw9 1 (by omega) (show (1 : Int32) = nI 1 from rfl)) rfl rfl rfl rfl (Nat.le_of_ble_eq_true rfl) (Nat.le_of_ble_eq_true rfl) (Nat.le_refl _) (Nat.le_of_ble_eq_true rfl) (Nat.le_of_ble_eq_true rfl) ?_
  refine X_push (v := .int 1) rfl (by decide +kernel) ?_
  refine X_bin rfl rfl ?_
  refine X_un rfl rfl ?_
  refine X_scall l_X11_X11_isIn (c_isIn hG (d + 1) (x := x) (y := 0) (z := (S w 1) - 1) rfl (by decide) rfl) rfl rfl rfl (Nat.le_of_ble_eq_true rfl) (Nat.le_of_ble_eq_true rfl) (Nat.le_refl _) (Nat.le_of_ble_eq_true rfl) (Nat.le_of_ble_eq_true rfl) ?_
  refine X_push (v := .int 1) rfl (by decide +kernel) ?_
  by_cases h21 : (0 : Int32) ≤ x ∧ x ≤ (S w 1) - 1
  · refine X_mcall l_X11_X11_right (c_rightT hG (d + 1) h21 updI_eq) rfl rfl rfl rfl (Nat.le_of_ble_eq_true rfl) (Nat.le_of_ble_eq_true rfl) (Nat.le_refl _) (Nat.le_of_ble_eq_true rfl) (Nat.le_of_ble_eq_true rfl) ?_
    refine X_if_eq rfl (fun c24 => absurd c24 (by decide)) (fun c24 => ?_)
    refine X_ld rfl rfl rfl rfl ?_
    refine X_ld rfl rfl rfl rfl ?_
    by_cases h29 : (0 : Int32) ≤ y ∧ y ≤ S w 0 - 1
    · refine X_mcall l_X11_X11_noColumn (c_noColumnT hG d w (updI_I3 hw) hw9 updI_eq h29) rfl rfl rfl rfl (Nat.le_of_ble_eq_true rfl) (Nat.le_of_ble_eq_true rfl) (Nat.le_refl _) (Nat.le_of_ble_eq_true rfl) (Nat.le_of_ble_eq_true rfl) ?_
      refine X_if_eq rfl (fun c32 => ?_) (fun c32 => absurd (by decide) c32)
      obtain ⟨l, hl1, hl2⟩ := m_rng hwf.lmE.1 (by have := hwf.lmE.2; omega) h21
      have el : n_ x = l := by unfold n_; rw [hl2]; exact nI_clamp (by omega)
      obtain ⟨j, hj1, hj2⟩ := m_rng hwf.cmE.1 (by have := hwf.cmE.2; omega) h29
      have ej : n_ y = j := by unfold n_; rw [hj2]; exact nI_clamp (by omega)
      refine X_ld rfl rfl rfl rfl ?_
      refine X_ld rfl rfl rfl rfl ?_
      refine X_ld rfl rfl rfl rfl ?_
      refine X_scall l_X11_X11_valueAt (c_valueAt hG (d + 1) ) rfl rfl rfl (Nat.le_of_ble_eq_true rfl) (Nat.le_of_ble_eq_true rfl) (Nat.le_refl _) (Nat.le_of_ble_eq_true rfl) (Nat.le_of_ble_eq_true rfl) ?_
      refine X_mcall l_X11_X11_get (c_get hG (d + 1) w (updI_I3 hw) hw9 (75 + 5 * l + j) (by omega) (m_valueAt hl2 hj2)) rfl rfl rfl rfl (Nat.le_of_ble_eq_true rfl) (Nat.le_of_ble_eq_true rfl) (Nat.le_refl _) (Nat.le_of_ble_eq_true rfl) (Nat.le_of_ble_eq_true rfl) ?_
      exact X_iret rfl rfl (a_ret (by unfold a_value; rw [if_pos h21, if_pos h29, el, ej])) (Nat.le_of_ble_eq_true rfl) (Nat.le_of_ble_eq_true rfl)
    · refine X_mcall l_X11_X11_noColumn (c_noColumnF hG d w (updI_I3 hw) hw9 updI_eq h29) rfl rfl rfl rfl (Nat.le_of_ble_eq_true rfl) (Nat.le_of_ble_eq_true rfl) (Nat.le_refl _) (Nat.le_of_ble_eq_true rfl) (Nat.le_of_ble_eq_true rfl) ?_
      refine X_heap (N' := mset B (upd I 0 1) T S rd tx gv pl) (by rw [upd_upd]) ?_
      refine X_if_eq rfl (fun c32 => absurd c32 (by decide)) (fun c32 => ?_)
      refine X_push (v := .int 0) rfl (by decide +kernel) ?_
      refine X_goto rfl ?_
      exact X_iret rfl rfl (a_ret (by unfold a_value; rw [if_pos h21, if_neg h29])) (Nat.le_of_ble_eq_true rfl) (Nat.le_of_ble_eq_true rfl)
  · refine X_mcall l_X11_X11_right (c_rightF hG (d + 1) h21 updI_eq (by decide)) rfl rfl rfl rfl (Nat.le_of_ble_eq_true rfl) (Nat.le_of_ble_eq_true rfl) (Nat.le_refl _) (Nat.le_of_ble_eq_true rfl) (Nat.le_of_ble_eq_true rfl) ?_
    refine X_heap (N' := mset B (upd I 0 1) T S rd tx gv pl) (by rw [upd_upd]) ?_
    refine X_if_eq rfl (fun c24 => ?_) (fun c24 => absurd (by decide) c24)
    refine X_push (v := .int 0) rfl (by decide +kernel) ?_
    refine X_goto rfl ?_
    exact X_iret rfl rfl (a_ret (by unfold a_value; rw [if_neg h21])) (Nat.le_of_ble_eq_true rfl) (Nat.le_of_ble_eq_true rfl)
def a_hole (c : Nat → Int32) (x y : Int32) : Int32 × Int32 :=
  if (0 : Int32) ≤ x ∧ x ≤ c 2 - 1 then (if (0 : Int32) ≤ y ∧ y ≤ 3 then (0, s_st c (n_ x) (17 + n_ y)) else (2, 0)) else (1, 0)
theorem c_hole {G : XE} (hG : x_Kn G) {B : XH} {I : Nat → Int32} {T : Int64} {S : Nat → Nat → Int32} {rd tx gv pl : Nat → Int32} (d : Nat) (w : Nat) (hw : I 3 = nI w) (hw9 : w < 9) (hwf : s_wf (S w)) {x y : Int32} : x_M G mX11_hole (d + 2) 0 0 [.ref 275, .int x, .int y] (mset B I T S rd tx gv pl) (x_Ret (mset B (upd I 0 (a_hole (S w) x y).1) T S rd tx gv pl) (.int (a_hole (S w) x y).2)) x_noX := by
  refine X_M hG okX11_hole rfl (L := [some (.ref 275), some (.int x), some (.int y)]) rfl (Nat.le_of_ble_eq_true rfl) (fun ad0 nb0 => ?_)
  have hcm5 := hwf.cmE.2
  have hlm40 := hwf.lmE.2
  have hsm6 := hwf.smE.2
  refine X_ld rfl rfl rfl rfl ?_
  refine X_ld rfl rfl rfl rfl ?_
  by_cases h2 : (0 : Int32) ≤ x ∧ x ≤ S w 2 - 1
  · refine X_mcall l_X11_X11_noStatement (c_noStatementT hG d w hw hw9 h2) rfl rfl rfl rfl (Nat.le_of_ble_eq_true rfl) (Nat.le_of_ble_eq_true rfl) (Nat.le_refl _) (Nat.le_of_ble_eq_true rfl) (Nat.le_of_ble_eq_true rfl) ?_
    refine X_if_ne rfl (fun c5 => absurd (by decide) c5) (fun c5 => ?_)
    refine X_ld rfl rfl rfl rfl ?_
    refine X_ld rfl rfl rfl rfl ?_
    refine X_un rfl rfl ?_
    refine X_push (v := .long 0) rfl (by decide +kernel) ?_
    refine X_ldc2 k_X11_305 rfl ?_
    refine X_scall l_X11_X11_isIn (c_isIn hG (d + 1) (x := y) (y := 0) (z := 3) rfl (by decide) (by decide)) rfl rfl rfl (Nat.le_of_ble_eq_true rfl) (Nat.le_of_ble_eq_true rfl) (Nat.le_refl _) (Nat.le_of_ble_eq_true rfl) (Nat.le_of_ble_eq_true rfl) ?_
    refine X_push (v := .int 2) rfl (by decide +kernel) ?_
    by_cases h19 : (0 : Int32) ≤ y ∧ y ≤ 3
    · refine X_mcall l_X11_X11_right (c_rightT hG (d + 1) h19 updI_eq) rfl rfl rfl rfl (Nat.le_of_ble_eq_true rfl) (Nat.le_of_ble_eq_true rfl) (Nat.le_refl _) (Nat.le_of_ble_eq_true rfl) (Nat.le_of_ble_eq_true rfl) ?_
      refine X_if_ne rfl (fun c22 => ?_) (fun c22 => absurd c22 (by decide))
      obtain ⟨s, hs1, hs2⟩ := m_rng hwf.smE.1 (by have := hwf.smE.2; omega) h2
      have es : n_ x = s := by unfold n_; rw [hs2]; exact nI_clamp (by omega)
      obtain ⟨q, hq1, hq2⟩ := m_rngc (m := 3) rfl (by omega) h19
      have eq : n_ y = q := by unfold n_; rw [hq2]; exact nI_clamp (by omega)
      refine X_ld rfl rfl rfl rfl ?_
      refine X_ld rfl rfl rfl rfl ?_
      refine X_push (v := .int 17) rfl (by decide +kernel) ?_
      refine X_ld rfl rfl rfl rfl ?_
      refine X_bin rfl rfl ?_
      refine X_mcall l_X11_X11_ofStatement (c_ofStatement hG d w (updI_I3 hw) hw9 s (17 + q) (by omega) hs2 (m_add (show (17 : Int32) = nI 17 from rfl) hq2)) rfl rfl rfl rfl (Nat.le_of_ble_eq_true rfl) (Nat.le_of_ble_eq_true rfl) (Nat.le_refl _) (Nat.le_of_ble_eq_true rfl) (Nat.le_of_ble_eq_true rfl) ?_
      exact X_iret rfl rfl (a_ret (by unfold a_hole; rw [if_pos h2, if_pos h19, es, eq])) (Nat.le_of_ble_eq_true rfl) (Nat.le_of_ble_eq_true rfl)
    · refine X_mcall l_X11_X11_right (c_rightF hG (d + 1) h19 updI_eq (by decide)) rfl rfl rfl rfl (Nat.le_of_ble_eq_true rfl) (Nat.le_of_ble_eq_true rfl) (Nat.le_refl _) (Nat.le_of_ble_eq_true rfl) (Nat.le_of_ble_eq_true rfl) ?_
      refine X_heap (N' := mset B (upd I 0 2) T S rd tx gv pl) (by rw [upd_upd]) ?_
      refine X_if_ne rfl (fun c22 => absurd (by decide) c22) (fun c22 => ?_)
      refine X_push (v := .int 0) rfl (by decide +kernel) ?_
      refine X_goto rfl ?_
      exact X_iret rfl rfl (a_ret (by unfold a_hole; rw [if_pos h2, if_neg h19])) (Nat.le_of_ble_eq_true rfl) (Nat.le_of_ble_eq_true rfl)
  · refine X_mcall l_X11_X11_noStatement (c_noStatementF hG d w hw hw9 h2) rfl rfl rfl rfl (Nat.le_of_ble_eq_true rfl) (Nat.le_of_ble_eq_true rfl) (Nat.le_refl _) (Nat.le_of_ble_eq_true rfl) (Nat.le_of_ble_eq_true rfl) ?_
    refine X_if_ne rfl (fun c5 => ?_) (fun c5 => absurd c5 (by decide))
    refine X_push (v := .int 0) rfl (by decide +kernel) ?_
    refine X_goto rfl ?_
    exact X_iret rfl rfl (a_ret (by unfold a_hole; rw [if_neg h2])) (Nat.le_of_ble_eq_true rfl) (Nat.le_of_ble_eq_true rfl)
def s_state (c : Nat → Int32) (s : Nat) : Int32 := if s_st c s 14 = -2 then 0 else if s_st c s 16 = c 3 then 1 else 2
theorem c_stateOf {G : XE} (hG : x_Kn G) {B : XH} {I : Nat → Int32} {T : Int64} {S : Nat → Nat → Int32} {rd tx gv pl : Nat → Int32} (d : Nat) (w : Nat) (hw : I 3 = nI w) (hw9 : w < 9) (s : Nat) (hs : s < 6) {x : Int32} (hx : x = nI s) : x_M G mX11_stateOf (d + 2) 0 0 [.ref 275, .int x] (mset B I T S rd tx gv pl) (x_Ret (mset B I T S rd tx gv pl) (.int (s_state (S w) s))) x_noX := by
  refine X_M hG okX11_stateOf rfl (L := [some (.ref 275), some (.int x)]) rfl (Nat.le_of_ble_eq_true rfl) (fun ad0 nb0 => ?_)
  refine X_ld rfl rfl rfl rfl ?_
  refine X_ld rfl rfl rfl rfl ?_
  refine X_push (v := .int 14) rfl (by decide +kernel) ?_
  refine X_mcall l_X11_X11_ofStatement (c_ofStatement hG d w hw hw9 s 14 (by omega) hx (show (14 : Int32) = nI 14 from rfl)) rfl rfl rfl rfl (Nat.le_of_ble_eq_true rfl) (Nat.le_of_ble_eq_true rfl) (Nat.le_refl _) (Nat.le_of_ble_eq_true rfl) (Nat.le_of_ble_eq_true rfl) ?_
  refine X_push (v := .int (-2)) rfl (by decide +kernel) ?_
  refine X_icmp_ne rfl (fun c9 => ?_) (fun c9 => ?_)
  · refine X_ld rfl rfl rfl rfl ?_
    refine X_ld rfl rfl rfl rfl ?_
    refine X_push (v := .int 16) rfl (by decide +kernel) ?_
    refine X_mcall l_X11_X11_ofStatement (c_ofStatement hG d w hw hw9 s 16 (by omega) hx (show (16 : Int32) = nI 16 from rfl)) rfl rfl rfl rfl (Nat.le_of_ble_eq_true rfl) (Nat.le_of_ble_eq_true rfl) (Nat.le_refl _) (Nat.le_of_ble_eq_true rfl) (Nat.le_of_ble_eq_true rfl) ?_
    refine X_ld rfl rfl rfl rfl ?_
    refine X_push (v := .int 3) rfl (by decide +kernel) ?_
    refine X_mcall l_X11_X11_get (c_get hG (d + 1) w hw hw9 3 (by omega) (show (3 : Int32) = nI 3 from rfl)) rfl rfl rfl rfl (Nat.le_of_ble_eq_true rfl) (Nat.le_of_ble_eq_true rfl) (Nat.le_refl _) (Nat.le_of_ble_eq_true rfl) (Nat.le_of_ble_eq_true rfl) ?_
    refine X_icmp_ne rfl (fun c28 => ?_) (fun c28 => ?_)
    · refine X_push (v := .int 2) rfl (by decide +kernel) ?_
      exact X_iret rfl rfl ⟨rfl, by unfold s_state; rw [if_neg c9, if_neg c28]⟩ (Nat.le_of_ble_eq_true rfl) (Nat.le_of_ble_eq_true rfl)
    · refine X_push (v := .int 1) rfl (by decide +kernel) ?_
      refine X_goto rfl ?_
      exact X_iret rfl rfl ⟨rfl, by unfold s_state; rw [if_neg c9, if_pos c28]⟩ (Nat.le_of_ble_eq_true rfl) (Nat.le_of_ble_eq_true rfl)
  · refine X_push (v := .int 0) rfl (by decide +kernel) ?_
    refine X_goto rfl ?_
    exact X_iret rfl rfl ⟨rfl, by unfold s_state; rw [if_pos c9]⟩ (Nat.le_of_ble_eq_true rfl) (Nat.le_of_ble_eq_true rfl)
def s_told (c : Nat → Int32) (s n : Nat) : Int32 := if n = 4 then s_state c s else s_st c s (8 + n)
theorem c_toldOf {G : XE} (hG : x_Kn G) {B : XH} {I : Nat → Int32} {T : Int64} {S : Nat → Nat → Int32} {rd tx gv pl : Nat → Int32} (d : Nat) (w : Nat) (hw : I 3 = nI w) (hw9 : w < 9) (s : Nat) (hs : s < 6) {x : Int32} (hx : x = nI s) (n : Nat) (hn : n ≤ 5) {y : Int32} (hy : y = nI n) : x_M G mX11_toldOf (d + 3) 0 0 [.ref 275, .int x, .int y] (mset B I T S rd tx gv pl) (x_Ret (mset B I T S rd tx gv pl) (.int (s_told (S w) s n))) x_noX := by
  refine X_M hG okX11_toldOf rfl (L := [some (.ref 275), some (.int x), some (.int y)]) rfl (Nat.le_of_ble_eq_true rfl) (fun ad0 nb0 => ?_)
  refine X_ld rfl rfl rfl rfl ?_
  refine X_push (v := .int 4) rfl (by decide +kernel) ?_
  refine X_icmp_ne rfl (fun c2 => ?_) (fun c2 => ?_)
  · have n2 := mt (n_eq (b := 4) hy (show (4 : Int32) = nI 4 from rfl) (by omega) (by omega)).mpr c2
    refine X_ld rfl rfl rfl rfl ?_
    refine X_ld rfl rfl rfl rfl ?_
    refine X_push (v := .int 8) rfl (by decide +kernel) ?_
    refine X_ld rfl rfl rfl rfl ?_
    refine X_bin rfl rfl ?_
    refine X_mcall l_X11_X11_ofStatement (c_ofStatement hG (d + 1) w hw hw9 s (8 + n) (by omega) hx (m_add (show (8 : Int32) = nI 8 from rfl) hy)) rfl rfl rfl rfl (Nat.le_of_ble_eq_true rfl) (Nat.le_of_ble_eq_true rfl) (Nat.le_refl _) (Nat.le_of_ble_eq_true rfl) (Nat.le_of_ble_eq_true rfl) ?_
    exact X_iret rfl rfl ⟨rfl, by unfold s_told; rw [if_neg n2]⟩ (Nat.le_of_ble_eq_true rfl) (Nat.le_of_ble_eq_true rfl)
  · have n2 := (n_eq (b := 4) hy (show (4 : Int32) = nI 4 from rfl) (by omega) (by omega)).mp c2
    refine X_ld rfl rfl rfl rfl ?_
    refine X_ld rfl rfl rfl rfl ?_
    refine X_mcall l_X11_X11_stateOf (c_stateOf hG d w hw hw9 s (by omega) hx) rfl rfl rfl rfl (Nat.le_of_ble_eq_true rfl) (Nat.le_of_ble_eq_true rfl) (Nat.le_refl _) (Nat.le_of_ble_eq_true rfl) (Nat.le_of_ble_eq_true rfl) ?_
    refine X_goto rfl ?_
    exact X_iret rfl rfl ⟨rfl, by unfold s_told; rw [if_pos n2]⟩ (Nat.le_of_ble_eq_true rfl) (Nat.le_of_ble_eq_true rfl)
def a_statement (c : Nat → Int32) (x y : Int32) : Int32 × Int32 :=
  if (0 : Int32) ≤ x ∧ x ≤ c 2 - 1 then (if (0 : Int32) ≤ y ∧ y ≤ 5 then (0, s_told c (n_ x) (n_ y)) else (2, 0)) else (1, 0)
theorem c_statement {G : XE} (hG : x_Kn G) {B : XH} {I : Nat → Int32} {T : Int64} {S : Nat → Nat → Int32} {rd tx gv pl : Nat → Int32} (d : Nat) (w : Nat) (hw : I 3 = nI w) (hw9 : w < 9) (hwf : s_wf (S w)) {x y : Int32} : x_M G mX11_statement (d + 4) 0 0 [.ref 275, .int x, .int y] (mset B I T S rd tx gv pl) (x_Ret (mset B (upd I 0 (a_statement (S w) x y).1) T S rd tx gv pl) (.int (a_statement (S w) x y).2)) x_noX := by
  refine X_M hG okX11_statement rfl (L := [some (.ref 275), some (.int x), some (.int y)]) rfl (Nat.le_of_ble_eq_true rfl) (fun ad0 nb0 => ?_)
  have hcm5 := hwf.cmE.2
  have hlm40 := hwf.lmE.2
  have hsm6 := hwf.smE.2
  refine X_ld rfl rfl rfl rfl ?_
  refine X_ld rfl rfl rfl rfl ?_
  by_cases h2 : (0 : Int32) ≤ x ∧ x ≤ S w 2 - 1
  · refine X_mcall l_X11_X11_noStatement (c_noStatementT hG (d + 2) w hw hw9 h2) rfl rfl rfl rfl (Nat.le_of_ble_eq_true rfl) (Nat.le_of_ble_eq_true rfl) (Nat.le_refl _) (Nat.le_of_ble_eq_true rfl) (Nat.le_of_ble_eq_true rfl) ?_
    refine X_if_ne rfl (fun c5 => absurd (by decide) c5) (fun c5 => ?_)
    refine X_ld rfl rfl rfl rfl ?_
    refine X_ld rfl rfl rfl rfl ?_
    refine X_un rfl rfl ?_
    refine X_push (v := .long 0) rfl (by decide +kernel) ?_
    refine X_ldc2 k_X11_310 rfl ?_
    refine X_scall l_X11_X11_isIn (c_isIn hG (d + 3) (x := y) (y := 0) (z := 5) rfl (by decide) (by decide)) rfl rfl rfl (Nat.le_of_ble_eq_true rfl) (Nat.le_of_ble_eq_true rfl) (Nat.le_refl _) (Nat.le_of_ble_eq_true rfl) (Nat.le_of_ble_eq_true rfl) ?_
    refine X_push (v := .int 2) rfl (by decide +kernel) ?_
    by_cases h19 : (0 : Int32) ≤ y ∧ y ≤ 5
    · refine X_mcall l_X11_X11_right (c_rightT hG (d + 3) h19 updI_eq) rfl rfl rfl rfl (Nat.le_of_ble_eq_true rfl) (Nat.le_of_ble_eq_true rfl) (Nat.le_refl _) (Nat.le_of_ble_eq_true rfl) (Nat.le_of_ble_eq_true rfl) ?_
      refine X_if_ne rfl (fun c22 => ?_) (fun c22 => absurd c22 (by decide))
      obtain ⟨s, hs1, hs2⟩ := m_rng hwf.smE.1 (by have := hwf.smE.2; omega) h2
      have es : n_ x = s := by unfold n_; rw [hs2]; exact nI_clamp (by omega)
      obtain ⟨q, hq1, hq2⟩ := m_rngc (m := 5) rfl (by omega) h19
      have eq : n_ y = q := by unfold n_; rw [hq2]; exact nI_clamp (by omega)
      refine X_ld rfl rfl rfl rfl ?_
      refine X_ld rfl rfl rfl rfl ?_
      refine X_ld rfl rfl rfl rfl ?_
      refine X_mcall l_X11_X11_toldOf (c_toldOf hG d w (updI_I3 hw) hw9 s (by omega) hs2 q (by omega) hq2) rfl rfl rfl rfl (Nat.le_of_ble_eq_true rfl) (Nat.le_of_ble_eq_true rfl) (Nat.le_refl _) (Nat.le_of_ble_eq_true rfl) (Nat.le_of_ble_eq_true rfl) ?_
      exact X_iret rfl rfl (a_ret (by unfold a_statement; rw [if_pos h2, if_pos h19, es, eq])) (Nat.le_of_ble_eq_true rfl) (Nat.le_of_ble_eq_true rfl)
    · refine X_mcall l_X11_X11_right (c_rightF hG (d + 3) h19 updI_eq (by decide)) rfl rfl rfl rfl (Nat.le_of_ble_eq_true rfl) (Nat.le_of_ble_eq_true rfl) (Nat.le_refl _) (Nat.le_of_ble_eq_true rfl) (Nat.le_of_ble_eq_true rfl) ?_
      refine X_heap (N' := mset B (upd I 0 2) T S rd tx gv pl) (by rw [upd_upd]) ?_
      refine X_if_ne rfl (fun c22 => absurd (by decide) c22) (fun c22 => ?_)
      refine X_push (v := .int 0) rfl (by decide +kernel) ?_
      refine X_goto rfl ?_
      exact X_iret rfl rfl (a_ret (by unfold a_statement; rw [if_pos h2, if_neg h19])) (Nat.le_of_ble_eq_true rfl) (Nat.le_of_ble_eq_true rfl)
  · refine X_mcall l_X11_X11_noStatement (c_noStatementF hG (d + 2) w hw hw9 h2) rfl rfl rfl rfl (Nat.le_of_ble_eq_true rfl) (Nat.le_of_ble_eq_true rfl) (Nat.le_refl _) (Nat.le_of_ble_eq_true rfl) (Nat.le_of_ble_eq_true rfl) ?_
    refine X_if_ne rfl (fun c5 => ?_) (fun c5 => absurd c5 (by decide))
    refine X_push (v := .int 0) rfl (by decide +kernel) ?_
    refine X_goto rfl ?_
    exact X_iret rfl rfl (a_ret (by unfold a_statement; rw [if_neg h2])) (Nat.le_of_ble_eq_true rfl) (Nat.le_of_ble_eq_true rfl)
def a_learned (c : Nat → Int32) (x y : Int32) : Int32 × Int32 :=
  if (0 : Int32) ≤ x ∧ x ≤ c 2 - 1 then (if (0 : Int32) ≤ y ∧ y ≤ c 0 - 1 then (0, s_st c (n_ x) (21 + n_ y)) else (1, 0)) else (1, 0)
theorem c_learned {G : XE} (hG : x_Kn G) {B : XH} {I : Nat → Int32} {T : Int64} {S : Nat → Nat → Int32} {rd tx gv pl : Nat → Int32} (d : Nat) (w : Nat) (hw : I 3 = nI w) (hw9 : w < 9) (hwf : s_wf (S w)) {x y : Int32} : x_M G mX11_learned (d + 2) 0 0 [.ref 275, .int x, .int y] (mset B I T S rd tx gv pl) (x_Ret (mset B (upd I 0 (a_learned (S w) x y).1) T S rd tx gv pl) (.int (a_learned (S w) x y).2)) x_noX := by
  refine X_M hG okX11_learned rfl (L := [some (.ref 275), some (.int x), some (.int y)]) rfl (Nat.le_of_ble_eq_true rfl) (fun ad0 nb0 => ?_)
  have hcm5 := hwf.cmE.2
  have hlm40 := hwf.lmE.2
  have hsm6 := hwf.smE.2
  refine X_ld rfl rfl rfl rfl ?_
  refine X_ld rfl rfl rfl rfl ?_
  by_cases h2 : (0 : Int32) ≤ x ∧ x ≤ S w 2 - 1
  · refine X_mcall l_X11_X11_noStatement (c_noStatementT hG d w hw hw9 h2) rfl rfl rfl rfl (Nat.le_of_ble_eq_true rfl) (Nat.le_of_ble_eq_true rfl) (Nat.le_refl _) (Nat.le_of_ble_eq_true rfl) (Nat.le_of_ble_eq_true rfl) ?_
    refine X_if_ne rfl (fun c5 => absurd (by decide) c5) (fun c5 => ?_)
    refine X_ld rfl rfl rfl rfl ?_
    refine X_ld rfl rfl rfl rfl ?_
    by_cases h10 : (0 : Int32) ≤ y ∧ y ≤ S w 0 - 1
    · refine X_mcall l_X11_X11_noColumn (c_noColumnT hG d w (updI_I3 hw) hw9 updI_eq h10) rfl rfl rfl rfl (Nat.le_of_ble_eq_true rfl) (Nat.le_of_ble_eq_true rfl) (Nat.le_refl _) (Nat.le_of_ble_eq_true rfl) (Nat.le_of_ble_eq_true rfl) ?_
      refine X_if_eq rfl (fun c13 => ?_) (fun c13 => absurd (by decide) c13)
      obtain ⟨s, hs1, hs2⟩ := m_rng hwf.smE.1 (by have := hwf.smE.2; omega) h2
      have es : n_ x = s := by unfold n_; rw [hs2]; exact nI_clamp (by omega)
      obtain ⟨j, hj1, hj2⟩ := m_rng hwf.cmE.1 (by have := hwf.cmE.2; omega) h10
      have ej : n_ y = j := by unfold n_; rw [hj2]; exact nI_clamp (by omega)
      refine X_ld rfl rfl rfl rfl ?_
      refine X_ld rfl rfl rfl rfl ?_
      refine X_push (v := .int 21) rfl (by decide +kernel) ?_
      refine X_ld rfl rfl rfl rfl ?_
      refine X_bin rfl rfl ?_
      refine X_mcall l_X11_X11_ofStatement (c_ofStatement hG d w (updI_I3 hw) hw9 s (21 + j) (by omega) hs2 (m_add (show (21 : Int32) = nI 21 from rfl) hj2)) rfl rfl rfl rfl (Nat.le_of_ble_eq_true rfl) (Nat.le_of_ble_eq_true rfl) (Nat.le_refl _) (Nat.le_of_ble_eq_true rfl) (Nat.le_of_ble_eq_true rfl) ?_
      exact X_iret rfl rfl (a_ret (by unfold a_learned; rw [if_pos h2, if_pos h10, es, ej])) (Nat.le_of_ble_eq_true rfl) (Nat.le_of_ble_eq_true rfl)
    · refine X_mcall l_X11_X11_noColumn (c_noColumnF hG d w (updI_I3 hw) hw9 updI_eq h10) rfl rfl rfl rfl (Nat.le_of_ble_eq_true rfl) (Nat.le_of_ble_eq_true rfl) (Nat.le_refl _) (Nat.le_of_ble_eq_true rfl) (Nat.le_of_ble_eq_true rfl) ?_
      refine X_heap (N' := mset B (upd I 0 1) T S rd tx gv pl) (by rw [upd_upd]) ?_
      refine X_if_eq rfl (fun c13 => absurd c13 (by decide)) (fun c13 => ?_)
      refine X_push (v := .int 0) rfl (by decide +kernel) ?_
      refine X_goto rfl ?_
      exact X_iret rfl rfl (a_ret (by unfold a_learned; rw [if_pos h2, if_neg h10])) (Nat.le_of_ble_eq_true rfl) (Nat.le_of_ble_eq_true rfl)
  · refine X_mcall l_X11_X11_noStatement (c_noStatementF hG d w hw hw9 h2) rfl rfl rfl rfl (Nat.le_of_ble_eq_true rfl) (Nat.le_of_ble_eq_true rfl) (Nat.le_refl _) (Nat.le_of_ble_eq_true rfl) (Nat.le_of_ble_eq_true rfl) ?_
    refine X_if_ne rfl (fun c5 => ?_) (fun c5 => absurd c5 (by decide))
    refine X_push (v := .int 0) rfl (by decide +kernel) ?_
    refine X_goto rfl ?_
    exact X_iret rfl rfl (a_ret (by unfold a_learned; rw [if_neg h2])) (Nat.le_of_ble_eq_true rfl) (Nat.le_of_ble_eq_true rfl)
def a_kept (c : Nat → Int32) (x : Int32) : Int32 × Int32 := if (0 : Int32) ≤ x ∧ x ≤ c 2 - 1 then (0, s_st c (n_ x) 14) else (1, 0)
theorem c_kept {G : XE} (hG : x_Kn G) {B : XH} {I : Nat → Int32} {T : Int64} {S : Nat → Nat → Int32} {rd tx gv pl : Nat → Int32} (d : Nat) (w : Nat) (hw : I 3 = nI w) (hw9 : w < 9) (hwf : s_wf (S w)) {x : Int32} : x_M G mX11_kept (d + 2) 0 0 [.ref 275, .int x] (mset B I T S rd tx gv pl) (x_Ret (mset B (upd I 0 (a_kept (S w) x).1) T S rd tx gv pl) (.int (a_kept (S w) x).2)) x_noX := by
  refine X_M hG okX11_kept rfl (L := [some (.ref 275), some (.int x)]) rfl (Nat.le_of_ble_eq_true rfl) (fun ad0 nb0 => ?_)
  have hcm5 := hwf.cmE.2
  have hlm40 := hwf.lmE.2
  have hsm6 := hwf.smE.2
  refine X_ld rfl rfl rfl rfl ?_
  refine X_ld rfl rfl rfl rfl ?_
  by_cases h2 : (0 : Int32) ≤ x ∧ x ≤ S w 2 - 1
  · refine X_mcall l_X11_X11_noStatement (c_noStatementT hG d w hw hw9 h2) rfl rfl rfl rfl (Nat.le_of_ble_eq_true rfl) (Nat.le_of_ble_eq_true rfl) (Nat.le_refl _) (Nat.le_of_ble_eq_true rfl) (Nat.le_of_ble_eq_true rfl) ?_
    refine X_if_eq rfl (fun c5 => ?_) (fun c5 => absurd (by decide) c5)
    obtain ⟨s, hs1, hs2⟩ := m_rng hwf.smE.1 (by have := hwf.smE.2; omega) h2
    have es : n_ x = s := by unfold n_; rw [hs2]; exact nI_clamp (by omega)
    refine X_ld rfl rfl rfl rfl ?_
    refine X_ld rfl rfl rfl rfl ?_
    refine X_push (v := .int 14) rfl (by decide +kernel) ?_
    refine X_mcall l_X11_X11_ofStatement (c_ofStatement hG d w (updI_I3 hw) hw9 s 14 (by omega) hs2 (show (14 : Int32) = nI 14 from rfl)) rfl rfl rfl rfl (Nat.le_of_ble_eq_true rfl) (Nat.le_of_ble_eq_true rfl) (Nat.le_refl _) (Nat.le_of_ble_eq_true rfl) (Nat.le_of_ble_eq_true rfl) ?_
    exact X_iret rfl rfl (a_ret (by unfold a_kept; rw [if_pos h2, es])) (Nat.le_of_ble_eq_true rfl) (Nat.le_of_ble_eq_true rfl)
  · refine X_mcall l_X11_X11_noStatement (c_noStatementF hG d w hw hw9 h2) rfl rfl rfl rfl (Nat.le_of_ble_eq_true rfl) (Nat.le_of_ble_eq_true rfl) (Nat.le_refl _) (Nat.le_of_ble_eq_true rfl) (Nat.le_of_ble_eq_true rfl) ?_
    refine X_if_eq rfl (fun c5 => absurd c5 (by decide)) (fun c5 => ?_)
    refine X_push (v := .int 0) rfl (by decide +kernel) ?_
    refine X_goto rfl ?_
    exact X_iret rfl rfl (a_ret (by unfold a_kept; rw [if_neg h2])) (Nat.le_of_ble_eq_true rfl) (Nat.le_of_ble_eq_true rfl)
theorem c_isPlan {G : XE} (hG : x_Kn G) {B : XH} {I : Nat → Int32} {T : Int64} {S : Nat → Nat → Int32} {rd tx gv pl : Nat → Int32} (d : Nat) (w : Nat) (hw : I 3 = nI w) (hw9 : w < 9) {x : Int32} : x_M G mX11_isPlan (d + 1) 0 0 [.ref 275, .int x] (mset B I T S rd tx gv pl) (x_Ret (mset B I T S rd tx gv pl) (.int (bI ((-1 : Int32) ≤ x ∧ x ≤ S w 0 - 1)))) x_noX := by
  refine X_M hG okX11_isPlan rfl (L := [some (.ref 275), some (.int x)]) rfl (Nat.le_of_ble_eq_true rfl) (fun ad0 nb0 => ?_)
  refine X_ld rfl rfl rfl rfl ?_
  refine X_un rfl rfl ?_
  refine X_ldc2 k_X11_315 rfl ?_
  refine X_ld rfl rfl rfl rfl ?_
  refine X_push (v := .int 0) rfl (by decide +kernel) ?_
  refine X_mcall l_X11_X11_get (c_get hG d w hw hw9 0 (by omega) (show (0 : Int32) = nI 0 from rfl)) rfl rfl rfl rfl (Nat.le_of_ble_eq_true rfl) (Nat.le_of_ble_eq_true rfl) (Nat.le_refl _) (Nat.le_of_ble_eq_true rfl) (Nat.le_of_ble_eq_true rfl) ?_
  refine X_push (v := .int 1) rfl (by decide +kernel) ?_
  refine X_bin rfl rfl ?_
  refine X_un rfl rfl ?_
  refine X_scall l_X11_X11_isIn (c_isIn hG d (x := x) (y := (-1)) (z := (S w 0) - 1) rfl (by decide) rfl) rfl rfl rfl (Nat.le_of_ble_eq_true rfl) (Nat.le_of_ble_eq_true rfl) (Nat.le_refl _) (Nat.le_of_ble_eq_true rfl) (Nat.le_of_ble_eq_true rfl) ?_
  exact X_zret rfl rfl (bI_nar _) ⟨rfl, rfl⟩ (Nat.le_of_ble_eq_true rfl) (Nat.le_of_ble_eq_true rfl)
theorem m_plan {x y : Int32} {m : Nat} (hm : y = nI m) (hb : m < 2147483648) (h : (-1 : Int32) ≤ x ∧ x ≤ y - 1) : x = -1 ∨ ∃ j, j < m ∧ x = nI j := by
  by_cases h0 : (0 : Int32) ≤ x
  · exact Or.inr (m_rng hm hb ⟨h0, h.2⟩)
  · refine Or.inl (Int32.toInt_inj.mp ?_)
    have h1 := Int32.le_iff_toInt_le.mp h.1
    have h2 := Int32.lt_iff_toInt_lt.mp (Int32.not_le.mp h0)
    rw [show (-1 : Int32).toInt = -1 by decide] at h1 ⊢
    rw [show (0 : Int32).toInt = 0 by decide] at h2
    omega
theorem m_plan5 {x y : Int32} {m : Nat} (hm : y = nI m) (hb : m ≤ 5) (h : (-1 : Int32) ≤ x ∧ x ≤ y - 1) : x = -1 ∨ ∃ j, j < 5 ∧ x = nI j := by
  rcases m_plan hm (by omega) h with h | ⟨j, h1, h2⟩
  · exact Or.inl h
  · exact Or.inr ⟨j, by omega, h2⟩
def a_genericCost (c gv : Nat → Int32) (x y : Int32) : Int32 × Int32 :=
  if (0 : Int32) ≤ x ∧ x ≤ c 2 - 1 then (if (-1 : Int32) ≤ y ∧ y ≤ c 0 - 1 then (0, s_cost c gv (n_ x) y false) else (2, 0)) else (1, 0)
theorem c_genericCost {G : XE} (hG : x_Kn G) {B : XH} {I : Nat → Int32} {T : Int64} {S : Nat → Nat → Int32} {rd tx gv pl : Nat → Int32} (d : Nat) (w : Nat) (hw : I 3 = nI w) (hw9 : w < 9) (hwf : s_wf (S w)) {x y : Int32} : x_M G mX11_genericCost (d + 6) 0 0 [.ref 275, .int x, .int y] (mset B I T S rd tx gv pl) (x_Ret (mset B (upd I 0 (a_genericCost (S w) gv x y).1) T S rd tx gv pl) (.int (a_genericCost (S w) gv x y).2)) x_noX := by
  refine X_M hG okX11_genericCost rfl (L := [some (.ref 275), some (.int x), some (.int y)]) rfl (Nat.le_of_ble_eq_true rfl) (fun ad0 nb0 => ?_)
  have hcm5 := hwf.cmE.2
  have hlm40 := hwf.lmE.2
  have hsm6 := hwf.smE.2
  refine X_ld rfl rfl rfl rfl ?_
  refine X_ld rfl rfl rfl rfl ?_
  by_cases h2 : (0 : Int32) ≤ x ∧ x ≤ S w 2 - 1
  · refine X_mcall l_X11_X11_noStatement (c_noStatementT hG (d + 4) w hw hw9 h2) rfl rfl rfl rfl (Nat.le_of_ble_eq_true rfl) (Nat.le_of_ble_eq_true rfl) (Nat.le_refl _) (Nat.le_of_ble_eq_true rfl) (Nat.le_of_ble_eq_true rfl) ?_
    refine X_if_ne rfl (fun c5 => absurd (by decide) c5) (fun c5 => ?_)
    refine X_ld rfl rfl rfl rfl ?_
    refine X_ld rfl rfl rfl rfl ?_
    refine X_ld rfl rfl rfl rfl ?_
    refine X_mcall l_X11_X11_isPlan (c_isPlan hG (d + 4) w (updI_I3 hw) hw9) rfl rfl rfl rfl (Nat.le_of_ble_eq_true rfl) (Nat.le_of_ble_eq_true rfl) (Nat.le_refl _) (Nat.le_of_ble_eq_true rfl) (Nat.le_of_ble_eq_true rfl) ?_
    refine X_push (v := .int 2) rfl (by decide +kernel) ?_
    by_cases h15 : (-1 : Int32) ≤ y ∧ y ≤ S w 0 - 1
    · refine X_mcall l_X11_X11_right (c_rightT hG (d + 5) h15 updI_eq) rfl rfl rfl rfl (Nat.le_of_ble_eq_true rfl) (Nat.le_of_ble_eq_true rfl) (Nat.le_refl _) (Nat.le_of_ble_eq_true rfl) (Nat.le_of_ble_eq_true rfl) ?_
      refine X_if_ne rfl (fun c18 => ?_) (fun c18 => absurd c18 (by decide))
      obtain ⟨s, hs1, hs2⟩ := m_rng hwf.smE.1 (by have := hwf.smE.2; omega) h2
      have es : n_ x = s := by unfold n_; rw [hs2]; exact nI_clamp (by omega)
      refine X_ld rfl rfl rfl rfl ?_
      refine X_ld rfl rfl rfl rfl ?_
      refine X_ld rfl rfl rfl rfl ?_
      refine X_push (v := .int 0) rfl (by decide +kernel) ?_
      refine X_mcall l_X11_X11_costOf (c_costOf hG d w (updI_I3 hw) hw9 s (by omega) (hwf.kok hs1) false hs2 (m_plan5 hwf.cmE.1 hwf.cmE.2 h15)) rfl rfl rfl rfl (Nat.le_of_ble_eq_true rfl) (Nat.le_of_ble_eq_true rfl) (Nat.le_refl _) (Nat.le_of_ble_eq_true rfl) (Nat.le_of_ble_eq_true rfl) ?_
      exact X_iret rfl rfl (a_ret (by unfold a_genericCost; rw [if_pos h2, if_pos h15, es])) (Nat.le_of_ble_eq_true rfl) (Nat.le_of_ble_eq_true rfl)
    · refine X_mcall l_X11_X11_right (c_rightF hG (d + 5) h15 updI_eq (by decide)) rfl rfl rfl rfl (Nat.le_of_ble_eq_true rfl) (Nat.le_of_ble_eq_true rfl) (Nat.le_refl _) (Nat.le_of_ble_eq_true rfl) (Nat.le_of_ble_eq_true rfl) ?_
      refine X_heap (N' := mset B (upd I 0 2) T S rd tx gv pl) (by rw [upd_upd]) ?_
      refine X_if_ne rfl (fun c18 => absurd (by decide) c18) (fun c18 => ?_)
      refine X_push (v := .int 0) rfl (by decide +kernel) ?_
      refine X_goto rfl ?_
      exact X_iret rfl rfl (a_ret (by unfold a_genericCost; rw [if_pos h2, if_neg h15])) (Nat.le_of_ble_eq_true rfl) (Nat.le_of_ble_eq_true rfl)
  · refine X_mcall l_X11_X11_noStatement (c_noStatementF hG (d + 4) w hw hw9 h2) rfl rfl rfl rfl (Nat.le_of_ble_eq_true rfl) (Nat.le_of_ble_eq_true rfl) (Nat.le_refl _) (Nat.le_of_ble_eq_true rfl) (Nat.le_of_ble_eq_true rfl) ?_
    refine X_if_ne rfl (fun c5 => ?_) (fun c5 => absurd c5 (by decide))
    refine X_push (v := .int 0) rfl (by decide +kernel) ?_
    refine X_goto rfl ?_
    exact X_iret rfl rfl (a_ret (by unfold a_genericCost; rw [if_neg h2])) (Nat.le_of_ble_eq_true rfl) (Nat.le_of_ble_eq_true rfl)
abbrev s_isv (c : Nat → Int32) (s h : Nat) (v : Int32) : Prop := (s_st c s (17 + h) = -1 ∧ v = 0) ∨ (¬ s_st c s (17 + h) = -1 ∧ (0 : Int32) ≤ v ∧ v ≤ s_most (s_st c s (17 + h)))
abbrev s_vok (c : Nat → Int32) (s : Nat) (v0 v1 v2 v3 : Int32) : Prop := s_isv c s 0 v0 ∧ s_isv c s 1 v1 ∧ s_isv c s 2 v2 ∧ s_isv c s 3 v3
def s_giv (gv : Nat → Int32) (v0 v1 v2 v3 : Int32) : Nat → Int32 := upd (upd (upd (upd gv 0 v0) 1 v1) 2 v2) 3 v3
theorem m_bIeq {p q : Prop} [Decidable p] [Decidable q] (h : p ↔ q) : bI p = bI q := by
  by_cases hp : p
  · rw [bI_t hp, bI_t (h.mp hp)]
  · rw [bI_f hp, bI_f (fun z => hp (h.mpr z))]
theorem c_isValue {G : XE} (hG : x_Kn G) {B : XH} {I : Nat → Int32} {T : Int64} {S : Nat → Nat → Int32} {rd tx gv pl : Nat → Int32} (d : Nat) (w : Nat) (hw : I 3 = nI w) (hw9 : w < 9) (s : Nat) (hs : s < 6) {x : Int32} (hx : x = nI s) (h : Nat) (hh : h < 4) {y v : Int32} (hy : y = nI h) : x_M G mX11_isValue (d + 2) 0 0 [.ref 275, .int x, .int y, .int v] (mset B I T S rd tx gv pl) (x_Ret (mset B I T S rd tx gv pl) (.int (bI (s_isv (S w) s h v)))) x_noX := by
  refine X_M hG okX11_isValue rfl (L := [some (.ref 275), some (.int x), some (.int y), some (.int v), none]) rfl (Nat.le_of_ble_eq_true rfl) (fun ad0 nb0 => ?_)
  refine X_ld rfl rfl rfl rfl ?_
  refine X_ld rfl rfl rfl rfl ?_
  refine X_push (v := .int 17) rfl (by decide +kernel) ?_
  refine X_ld rfl rfl rfl rfl ?_
  refine X_bin rfl rfl ?_
  refine X_mcall l_X11_X11_ofStatement (c_ofStatement hG d w hw hw9 s (17 + h) (by omega) hx (m_add (show (17 : Int32) = nI 17 from rfl) hy)) rfl rfl rfl rfl (Nat.le_of_ble_eq_true rfl) (Nat.le_of_ble_eq_true rfl) (Nat.le_refl _) (Nat.le_of_ble_eq_true rfl) (Nat.le_of_ble_eq_true rfl) ?_
  refine X_st rfl rfl rfl ?_
  refine X_ld rfl rfl rfl rfl ?_
  refine X_push (v := .int (-1)) rfl (by decide +kernel) ?_
  refine X_icmp_ne rfl (fun c14 => ?_) (fun c14 => ?_)
  · refine X_ld rfl rfl rfl rfl ?_
    refine X_un rfl rfl ?_
    refine X_push (v := .long 0) rfl (by decide +kernel) ?_
    refine X_ld rfl rfl rfl rfl ?_
    refine X_scall l_X11_X11_mostOf (c_mostOf hG (d + 1) ) rfl rfl rfl (Nat.le_of_ble_eq_true rfl) (Nat.le_of_ble_eq_true rfl) (Nat.le_refl _) (Nat.le_of_ble_eq_true rfl) (Nat.le_of_ble_eq_true rfl) ?_
    refine X_un rfl rfl ?_
    refine X_scall l_X11_X11_isIn (c_isIn hG (d + 1) (x := v) (y := 0) (z := s_most (S w (275 + 30 * s + (17 + h)))) rfl (by decide) rfl) rfl rfl rfl (Nat.le_of_ble_eq_true rfl) (Nat.le_of_ble_eq_true rfl) (Nat.le_refl _) (Nat.le_of_ble_eq_true rfl) (Nat.le_of_ble_eq_true rfl) ?_
    exact X_zret rfl rfl (bI_nar _) ⟨rfl, congrArg (fun q => some (Value.int q)) (m_bIeq ⟨fun q => Or.inr ⟨c14, q⟩, fun q => q.elim (fun q => absurd q.1 c14) (fun q => q.2)⟩)⟩ (Nat.le_of_ble_eq_true rfl) (Nat.le_of_ble_eq_true rfl)
  · refine X_ld rfl rfl rfl rfl ?_
    refine X_if_ne rfl (fun c18 => ?_) (fun c18 => ?_)
    · refine X_push (v := .int 0) rfl (by decide +kernel) ?_
      refine X_goto rfl ?_
      exact X_zret rfl rfl rfl ⟨rfl, by rw [bI_f (fun q => q.elim (fun q => c18 q.2) (fun q => q.1 c14))]⟩ (Nat.le_of_ble_eq_true rfl) (Nat.le_of_ble_eq_true rfl)
    · refine X_push (v := .int 1) rfl (by decide +kernel) ?_
      refine X_goto rfl ?_
      exact X_zret rfl rfl rfl ⟨rfl, by rw [bI_t (Or.inl ⟨c14, c18⟩)]⟩ (Nat.le_of_ble_eq_true rfl) (Nat.le_of_ble_eq_true rfl)
theorem X_arre {G : XE} {M : XMI} {Z : XZ} {N : XH} {cells slots pc a n : Nat} {L : List (Option Value)} {st : List Value} {mu : Bool} {ty : FieldType} {f f' : Nat → Value} (hN : N a = some (.inr (mu, ty, n, f))) (hf : ∀ j, j < n → f j = f' j) (kk : x_W G M Z (x_set N a (.inr (mu, ty, n, f'))) cells slots pc L st) : x_W G M Z N cells slots pc L st := by
  intro p e s m args below meth c ad nb H locs ls B hR hn he hS hl hvs
  refine kk p e s m args below meth c ad nb H locs ls B ?_ hn he hS hl hvs
  obtain ⟨ha, -⟩ := x_R_arr hR hN
  obtain ⟨h1, h2, h3, h4, h5⟩ := hR
  have dom : ∀ k d, x_set N a (.inr (mu, ty, n, f')) k = some d → ∃ d', N k = some d' := fun k d hk => by
    by_cases e : k = a
    · exact ⟨_, by rw [e]; exact hN⟩
    · exact ⟨d, by rw [x_set_ne e] at hk; exact hk⟩
  refine ⟨fun k d k0 hk => ?_, fun i j ci cj i0 j0 hi hj he => ?_, h3, h4, fun d hd => h5 d (by rw [x_set_ne (Ne.symm ha)] at hd; exact hd)⟩
  · by_cases e : k = a
    · subst e
      rw [x_set_eq] at hk
      cases hk
      obtain ⟨g1, g2, g3, g4, g5⟩ := h1 k _ k0 hN
      refine ⟨g1, fun j hj => by rw [← hf j hj]; exact g2 j hj, g3, g4, ?_⟩
      cases mu with
      | true => exact Eq.trans g5 (congrArg some (arrV_ext _ _ fun j hj => congrArg _ (hf j hj)))
      | false =>
        obtain ⟨cell, c1, c2, c3, c4, c5, c6⟩ := g5
        exact ⟨cell, c1, c2, c3, c4, c5, fun j hj => by rw [← hf j hj]; exact c6 j hj⟩
    · rw [x_set_ne e] at hk
      exact h1 k d k0 hk
  · obtain ⟨di, hi'⟩ := dom i ci hi
    obtain ⟨dj, hj'⟩ := dom j cj hj
    exact h2 i j di dj i0 j0 hi' hj' he
theorem m_setG {B : XH} {I : Nat → Int32} {T : Int64} {S : Nat → Nat → Int32} {rd tx gv gv' pl : Nat → Int32} : x_set (mset B I T S rd tx gv pl) 279 (.inr (true, .int, 4, fun j => .int (gv' j))) = mset B I T S rd tx gv' pl := by
  funext j
  unfold x_set
  by_cases hj : j = 279
  · rw [if_pos hj, hj]; rfl
  · rw [if_neg hj]
    unfold mset
    rw [beq_ne hj]
    rfl
/-- the values that a call takes -/
def s_gv (v0 v1 v2 v3 : Int32) : Nat → Int32 := fun k => if k = 0 then v0 else if k = 1 then v1 else if k = 2 then v2 else v3
theorem s_giv_gv {gv : Nat → Int32} {v0 v1 v2 v3 : Int32} (j : Nat) (hj : j < 4) : s_giv gv v0 v1 v2 v3 j = s_gv v0 v1 v2 v3 j := by
  rcases (by omega : j = 0 ∨ j = 1 ∨ j = 2 ∨ j = 3) with rfl | rfl | rfl | rfl <;> rfl
theorem X_giv {G : XE} {M : XMI} {Z : XZ} {cells slots pc : Nat} {L : List (Option Value)} {st : List Value} {B : XH} {I : Nat → Int32} {T : Int64} {S : Nat → Nat → Int32} {rd tx gv pl : Nat → Int32} {v0 v1 v2 v3 : Int32} (kk : x_W G M Z (mset B I T S rd tx (s_gv v0 v1 v2 v3) pl) cells slots pc L st) : x_W G M Z (mset B I T S rd tx (s_giv gv v0 v1 v2 v3) pl) cells slots pc L st :=
  X_arre (a := 279) (f' := fun j => .int (s_gv v0 v1 v2 v3 j)) rfl (fun j hj => congrArg Value.int (s_giv_gv j hj)) (by rw [m_setG]; exact kk)
theorem c_takesValuesT {G : XE} (hG : x_Kn G) {B : XH} {I : Nat → Int32} {T : Int64} {S : Nat → Nat → Int32} {rd tx gv pl : Nat → Int32} (d : Nat) (w : Nat) (hw : I 3 = nI w) (hw9 : w < 9) (s : Nat) (hs : s < 6) {x v0 v1 v2 v3 : Int32} (hx : x = nI s) (hp : s_vok (S w) s v0 v1 v2 v3) (h0 : I 0 = 0) : x_M G mX11_takesValues (d + 3) 0 0 [.ref 275, .int x, .int v0, .int v1, .int v2, .int v3] (mset B I T S rd tx gv pl) (x_Ret (mset B I T S rd tx (s_gv v0 v1 v2 v3) pl) (.int 1)) x_noX := by
  refine X_M hG okX11_takesValues rfl (L := [some (.ref 275), some (.int x), some (.int v0), some (.int v1), some (.int v2), some (.int v3)]) rfl (Nat.le_of_ble_eq_true rfl) (fun ad0 nb0 => ?_)
  refine X_ld rfl rfl rfl rfl ?_
  refine X_ld rfl rfl rfl rfl ?_
  refine X_ld rfl rfl rfl rfl ?_
  refine X_push (v := .int 0) rfl (by decide +kernel) ?_
  refine X_ld rfl rfl rfl rfl ?_
  refine X_mcall l_X11_X11_isValue (c_isValue hG d w hw hw9 s (by omega) hx 0 (by omega) (show (0 : Int32) = nI 0 from rfl)) rfl rfl rfl rfl (Nat.le_of_ble_eq_true rfl) (Nat.le_of_ble_eq_true rfl) (Nat.le_refl _) (Nat.le_of_ble_eq_true rfl) (Nat.le_of_ble_eq_true rfl) ?_
  refine X_if_eq rfl (fun c8 => absurd c8 (bI_ne.mpr hp.1)) (fun c8 => ?_)
  refine X_ld rfl rfl rfl rfl ?_
  refine X_ld rfl rfl rfl rfl ?_
  refine X_push (v := .int 1) rfl (by decide +kernel) ?_
  refine X_ld rfl rfl rfl rfl ?_
  refine X_mcall l_X11_X11_isValue (c_isValue hG d w hw hw9 s (by omega) hx 1 (by omega) (show (1 : Int32) = nI 1 from rfl)) rfl rfl rfl rfl (Nat.le_of_ble_eq_true rfl) (Nat.le_of_ble_eq_true rfl) (Nat.le_refl _) (Nat.le_of_ble_eq_true rfl) (Nat.le_of_ble_eq_true rfl) ?_
  refine X_if_eq rfl (fun c18 => absurd c18 (bI_ne.mpr hp.2.1)) (fun c18 => ?_)
  refine X_ld rfl rfl rfl rfl ?_
  refine X_ld rfl rfl rfl rfl ?_
  refine X_push (v := .int 2) rfl (by decide +kernel) ?_
  refine X_ld rfl rfl rfl rfl ?_
  refine X_mcall l_X11_X11_isValue (c_isValue hG d w hw hw9 s (by omega) hx 2 (by omega) (show (2 : Int32) = nI 2 from rfl)) rfl rfl rfl rfl (Nat.le_of_ble_eq_true rfl) (Nat.le_of_ble_eq_true rfl) (Nat.le_refl _) (Nat.le_of_ble_eq_true rfl) (Nat.le_of_ble_eq_true rfl) ?_
  refine X_if_eq rfl (fun c29 => absurd c29 (bI_ne.mpr hp.2.2.1)) (fun c29 => ?_)
  refine X_ld rfl rfl rfl rfl ?_
  refine X_ld rfl rfl rfl rfl ?_
  refine X_push (v := .int 3) rfl (by decide +kernel) ?_
  refine X_ld rfl rfl rfl rfl ?_
  refine X_mcall l_X11_X11_isValue (c_isValue hG d w hw hw9 s (by omega) hx 3 (by omega) (show (3 : Int32) = nI 3 from rfl)) rfl rfl rfl rfl (Nat.le_of_ble_eq_true rfl) (Nat.le_of_ble_eq_true rfl) (Nat.le_refl _) (Nat.le_of_ble_eq_true rfl) (Nat.le_of_ble_eq_true rfl) ?_
  refine X_if_eq rfl (fun c40 => absurd c40 (bI_ne.mpr hp.2.2.2)) (fun c40 => ?_)
  refine X_push (v := .int 1) rfl (by decide +kernel) ?_
  refine X_goto rfl ?_
  refine X_push (v := .int 2) rfl (by decide +kernel) ?_
  refine X_mcall l_X11_X11_right (c_rightT hG (d + 2) trivial h0) rfl rfl rfl rfl (Nat.le_of_ble_eq_true rfl) (Nat.le_of_ble_eq_true rfl) (Nat.le_refl _) (Nat.le_of_ble_eq_true rfl) (Nat.le_of_ble_eq_true rfl) ?_
  refine X_if_ne rfl (fun c52 => ?_) (fun c52 => absurd c52 (by decide))
  refine X_ld rfl rfl rfl rfl ?_
  refine X_get f_X11_23 rfl rfl rfl ?_
  refine X_push (v := .int 0) rfl (by decide +kernel) ?_
  refine X_ld rfl rfl rfl rfl ?_
  refine X_mGst 0 (show (0 : Int32) = nI 0 from rfl) (by omega) rfl ?_
  refine X_ld rfl rfl rfl rfl ?_
  refine X_get f_X11_23 rfl rfl rfl ?_
  refine X_push (v := .int 1) rfl (by decide +kernel) ?_
  refine X_ld rfl rfl rfl rfl ?_
  refine X_mGst 1 (show (1 : Int32) = nI 1 from rfl) (by omega) rfl ?_
  refine X_ld rfl rfl rfl rfl ?_
  refine X_get f_X11_23 rfl rfl rfl ?_
  refine X_push (v := .int 2) rfl (by decide +kernel) ?_
  refine X_ld rfl rfl rfl rfl ?_
  refine X_mGst 2 (show (2 : Int32) = nI 2 from rfl) (by omega) rfl ?_
  refine X_ld rfl rfl rfl rfl ?_
  refine X_get f_X11_23 rfl rfl rfl ?_
  refine X_push (v := .int 3) rfl (by decide +kernel) ?_
  refine X_ld rfl rfl rfl rfl ?_
  refine X_mGst 3 (show (3 : Int32) = nI 3 from rfl) (by omega) rfl ?_
  refine X_giv ?_
  refine X_push (v := .int 1) rfl (by decide +kernel) ?_
  exact X_zret rfl rfl rfl ⟨rfl, rfl⟩ (Nat.le_of_ble_eq_true rfl) (Nat.le_of_ble_eq_true rfl)
theorem c_takesValuesF {G : XE} (hG : x_Kn G) {B : XH} {I : Nat → Int32} {T : Int64} {S : Nat → Nat → Int32} {rd tx gv pl : Nat → Int32} (d : Nat) (w : Nat) (hw : I 3 = nI w) (hw9 : w < 9) (s : Nat) (hs : s < 6) {x v0 v1 v2 v3 : Int32} (hx : x = nI s) (hp : ¬ (s_vok (S w) s v0 v1 v2 v3)) (h0 : I 0 = 0) : x_M G mX11_takesValues (d + 3) 0 0 [.ref 275, .int x, .int v0, .int v1, .int v2, .int v3] (mset B I T S rd tx gv pl) (x_Ret (mset B (upd I 0 2) T S rd tx gv pl) (.int 0)) x_noX := by
  refine X_M hG okX11_takesValues rfl (L := [some (.ref 275), some (.int x), some (.int v0), some (.int v1), some (.int v2), some (.int v3)]) rfl (Nat.le_of_ble_eq_true rfl) (fun ad0 nb0 => ?_)
  refine X_ld rfl rfl rfl rfl ?_
  refine X_ld rfl rfl rfl rfl ?_
  refine X_ld rfl rfl rfl rfl ?_
  refine X_push (v := .int 0) rfl (by decide +kernel) ?_
  refine X_ld rfl rfl rfl rfl ?_
  refine X_mcall l_X11_X11_isValue (c_isValue hG d w hw hw9 s (by omega) hx 0 (by omega) (show (0 : Int32) = nI 0 from rfl)) rfl rfl rfl rfl (Nat.le_of_ble_eq_true rfl) (Nat.le_of_ble_eq_true rfl) (Nat.le_refl _) (Nat.le_of_ble_eq_true rfl) (Nat.le_of_ble_eq_true rfl) ?_
  refine X_if_eq rfl (fun c8 => ?_) (fun c8 => ?_)
  · have h8 : ¬ (s_isv (S w) s 0 v0) := fun q => bI_ne.mpr q c8
    refine X_push (v := .int 0) rfl (by decide +kernel) ?_
    refine X_push (v := .int 2) rfl (by decide +kernel) ?_
    refine X_mcall l_X11_X11_right (c_rightF hG (d + 2) (fun q : False => q) h0 (by decide)) rfl rfl rfl rfl (Nat.le_of_ble_eq_true rfl) (Nat.le_of_ble_eq_true rfl) (Nat.le_refl _) (Nat.le_of_ble_eq_true rfl) (Nat.le_of_ble_eq_true rfl) ?_
    refine X_if_ne rfl (fun c52 => absurd (by decide) c52) (fun c52 => ?_)
    refine X_push (v := .int 0) rfl (by decide +kernel) ?_
    exact X_zret rfl rfl rfl ⟨rfl, rfl⟩ (Nat.le_of_ble_eq_true rfl) (Nat.le_of_ble_eq_true rfl)
  · have h8 : s_isv (S w) s 0 v0 := bI_ne.mp c8
    refine X_ld rfl rfl rfl rfl ?_
    refine X_ld rfl rfl rfl rfl ?_
    refine X_push (v := .int 1) rfl (by decide +kernel) ?_
    refine X_ld rfl rfl rfl rfl ?_
    refine X_mcall l_X11_X11_isValue (c_isValue hG d w hw hw9 s (by omega) hx 1 (by omega) (show (1 : Int32) = nI 1 from rfl)) rfl rfl rfl rfl (Nat.le_of_ble_eq_true rfl) (Nat.le_of_ble_eq_true rfl) (Nat.le_refl _) (Nat.le_of_ble_eq_true rfl) (Nat.le_of_ble_eq_true rfl) ?_
    refine X_if_eq rfl (fun c18 => ?_) (fun c18 => ?_)
    · have h18 : ¬ (s_isv (S w) s 1 v1) := fun q => bI_ne.mpr q c18
      refine X_push (v := .int 0) rfl (by decide +kernel) ?_
      refine X_push (v := .int 2) rfl (by decide +kernel) ?_
      refine X_mcall l_X11_X11_right (c_rightF hG (d + 2) (fun q : False => q) h0 (by decide)) rfl rfl rfl rfl (Nat.le_of_ble_eq_true rfl) (Nat.le_of_ble_eq_true rfl) (Nat.le_refl _) (Nat.le_of_ble_eq_true rfl) (Nat.le_of_ble_eq_true rfl) ?_
      refine X_if_ne rfl (fun c52 => absurd (by decide) c52) (fun c52 => ?_)
      refine X_push (v := .int 0) rfl (by decide +kernel) ?_
      exact X_zret rfl rfl rfl ⟨rfl, rfl⟩ (Nat.le_of_ble_eq_true rfl) (Nat.le_of_ble_eq_true rfl)
    · have h18 : s_isv (S w) s 1 v1 := bI_ne.mp c18
      refine X_ld rfl rfl rfl rfl ?_
      refine X_ld rfl rfl rfl rfl ?_
      refine X_push (v := .int 2) rfl (by decide +kernel) ?_
      refine X_ld rfl rfl rfl rfl ?_
      refine X_mcall l_X11_X11_isValue (c_isValue hG d w hw hw9 s (by omega) hx 2 (by omega) (show (2 : Int32) = nI 2 from rfl)) rfl rfl rfl rfl (Nat.le_of_ble_eq_true rfl) (Nat.le_of_ble_eq_true rfl) (Nat.le_refl _) (Nat.le_of_ble_eq_true rfl) (Nat.le_of_ble_eq_true rfl) ?_
      refine X_if_eq rfl (fun c29 => ?_) (fun c29 => ?_)
      · have h29 : ¬ (s_isv (S w) s 2 v2) := fun q => bI_ne.mpr q c29
        refine X_push (v := .int 0) rfl (by decide +kernel) ?_
        refine X_push (v := .int 2) rfl (by decide +kernel) ?_
        refine X_mcall l_X11_X11_right (c_rightF hG (d + 2) (fun q : False => q) h0 (by decide)) rfl rfl rfl rfl (Nat.le_of_ble_eq_true rfl) (Nat.le_of_ble_eq_true rfl) (Nat.le_refl _) (Nat.le_of_ble_eq_true rfl) (Nat.le_of_ble_eq_true rfl) ?_
        refine X_if_ne rfl (fun c52 => absurd (by decide) c52) (fun c52 => ?_)
        refine X_push (v := .int 0) rfl (by decide +kernel) ?_
        exact X_zret rfl rfl rfl ⟨rfl, rfl⟩ (Nat.le_of_ble_eq_true rfl) (Nat.le_of_ble_eq_true rfl)
      · have h29 : s_isv (S w) s 2 v2 := bI_ne.mp c29
        refine X_ld rfl rfl rfl rfl ?_
        refine X_ld rfl rfl rfl rfl ?_
        refine X_push (v := .int 3) rfl (by decide +kernel) ?_
        refine X_ld rfl rfl rfl rfl ?_
        refine X_mcall l_X11_X11_isValue (c_isValue hG d w hw hw9 s (by omega) hx 3 (by omega) (show (3 : Int32) = nI 3 from rfl)) rfl rfl rfl rfl (Nat.le_of_ble_eq_true rfl) (Nat.le_of_ble_eq_true rfl) (Nat.le_refl _) (Nat.le_of_ble_eq_true rfl) (Nat.le_of_ble_eq_true rfl) ?_
        refine X_if_eq rfl (fun c40 => ?_) (fun c40 => absurd ⟨h8, h18, h29, bI_ne.mp c40⟩ hp)
        refine X_push (v := .int 0) rfl (by decide +kernel) ?_
        refine X_push (v := .int 2) rfl (by decide +kernel) ?_
        refine X_mcall l_X11_X11_right (c_rightF hG (d + 2) (fun q : False => q) h0 (by decide)) rfl rfl rfl rfl (Nat.le_of_ble_eq_true rfl) (Nat.le_of_ble_eq_true rfl) (Nat.le_refl _) (Nat.le_of_ble_eq_true rfl) (Nat.le_of_ble_eq_true rfl) ?_
        refine X_if_ne rfl (fun c52 => absurd (by decide) c52) (fun c52 => ?_)
        refine X_push (v := .int 0) rfl (by decide +kernel) ?_
        exact X_zret rfl rfl rfl ⟨rfl, rfl⟩ (Nat.le_of_ble_eq_true rfl) (Nat.le_of_ble_eq_true rfl)
/-- what a call of the reference leaves: the values given and the pile may be anything -/
def x_RetG (B : XH) (I : Nat → Int32) (T : Int64) (S : Nat → Nat → Int32) (rd tx : Nat → Int32) (A : Int32 × Int32) : XH → Option Value → Prop := fun N r =>
  ∃ (gv' : Nat → Int32) (P' : Nat → Bool), N = mset B (upd I 0 A.1) T S rd tx gv' (fun i => b2 (P' i)) ∧ r = some (.int A.2)
def x_RetGL (B : XH) (I : Nat → Int32) (T : Int64) (S : Nat → Nat → Int32) (rd tx : Nat → Int32) (A : Int32 × Int64) : XH → Option Value → Prop := fun N r =>
  ∃ (gv' : Nat → Int32) (P' : Nat → Bool), N = mset B (upd I 0 A.1) T S rd tx gv' (fun i => b2 (P' i)) ∧ r = some (.long A.2)
section
variable {B : XH} {I : Nat → Int32} {T : Int64} {S : Nat → Nat → Int32} {rd tx gv : Nat → Int32} {P : Nat → Bool}
theorem a_retG {A : Int32 × Int32} {t v : Int32} (h : A = (t, v)) : x_RetG B I T S rd tx A (mset B (upd I 0 t) T S rd tx gv (fun i => b2 (P i))) (some (.int v)) := ⟨gv, P, by rw [h], by rw [h]⟩
theorem a_retGL {A : Int32 × Int64} {t : Int32} {v : Int64} (h : A = (t, v)) : x_RetGL B I T S rd tx A (mset B (upd I 0 t) T S rd tx gv (fun i => b2 (P i))) (some (.long v)) := ⟨gv, P, by rw [h], by rw [h]⟩
end
abbrev a_ifv (c : Nat → Int32) (x v0 v1 v2 v3 : Int32) {α : Type} (z v : α) : Int32 × α := if (0 : Int32) ≤ x ∧ x ≤ c 2 - 1 then (if s_vok c (n_ x) v0 v1 v2 v3 then (0, v) else (2, z)) else (1, z)
def a_special (c : Nat → Int32) (x v0 v1 v2 v3 : Int32) : Int32 × Int32 := a_ifv c x v0 v1 v2 v3 0 (s_best c (s_gv v0 v1 v2 v3) (n_ x) (s_cm c) true)
theorem c_special {G : XE} (hG : x_Kn G) {B : XH} {I : Nat → Int32} {T : Int64} {S : Nat → Nat → Int32} {rd tx gv : Nat → Int32} {P : Nat → Bool} (d : Nat) (w : Nat) (hw : I 3 = nI w) (hw9 : w < 9) (hwf : s_wf (S w)) {x v0 v1 v2 v3 : Int32} : x_M G mX11_special (d + 7) 0 0 [.ref 275, .int x, .int v0, .int v1, .int v2, .int v3] (mset B I T S rd tx gv (fun i => b2 (P i))) (x_RetG B I T S rd tx (a_special (S w) x v0 v1 v2 v3)) x_noX := by
  refine X_M hG okX11_special rfl (L := [some (.ref 275), some (.int x), some (.int v0), some (.int v1), some (.int v2), some (.int v3)]) rfl (Nat.le_of_ble_eq_true rfl) (fun ad0 nb0 => ?_)
  have hcm5 := hwf.cmE.2
  have hlm40 := hwf.lmE.2
  have hsm6 := hwf.smE.2
  refine X_ld rfl rfl rfl rfl ?_
  refine X_ld rfl rfl rfl rfl ?_
  by_cases h2 : (0 : Int32) ≤ x ∧ x ≤ S w 2 - 1
  · refine X_mcall l_X11_X11_noStatement (c_noStatementT hG (d + 5) w hw hw9 h2) rfl rfl rfl rfl (Nat.le_of_ble_eq_true rfl) (Nat.le_of_ble_eq_true rfl) (Nat.le_refl _) (Nat.le_of_ble_eq_true rfl) (Nat.le_of_ble_eq_true rfl) ?_
    refine X_if_ne rfl (fun c5 => absurd (by decide) c5) (fun c5 => ?_)
    obtain ⟨s, hs1, hs2⟩ := m_rng hwf.smE.1 (by have := hwf.smE.2; omega) h2
    have es : n_ x = s := by unfold n_; rw [hs2]; exact nI_clamp (by omega)
    refine X_ld rfl rfl rfl rfl ?_
    refine X_ld rfl rfl rfl rfl ?_
    refine X_ld rfl rfl rfl rfl ?_
    refine X_ld rfl rfl rfl rfl ?_
    refine X_ld rfl rfl rfl rfl ?_
    refine X_ld rfl rfl rfl rfl ?_
    by_cases h16 : s_vok (S w) s v0 v1 v2 v3
    · refine X_mcall l_X11_X11_takesValues (c_takesValuesT hG (d + 3) w (updI_I3 hw) hw9 s (by omega) hs2 h16 updI_eq) rfl rfl rfl rfl (Nat.le_of_ble_eq_true rfl) (Nat.le_of_ble_eq_true rfl) (Nat.le_refl _) (Nat.le_of_ble_eq_true rfl) (Nat.le_of_ble_eq_true rfl) ?_
      refine X_if_ne rfl (fun c19 => ?_) (fun c19 => absurd c19 (by decide))
      refine X_ld rfl rfl rfl rfl ?_
      refine X_ld rfl rfl rfl rfl ?_
      refine X_push (v := .int 1) rfl (by decide +kernel) ?_
      refine X_mcall l_X11_X11_bestPlan (c_bestPlan hG d w (updI_I3 hw) hw9 (s_cm (S w)) hwf.cmE.1 hwf.cmE.2 s (by omega) (hwf.kok hs1) true hs2) rfl rfl rfl rfl (Nat.le_of_ble_eq_true rfl) (Nat.le_of_ble_eq_true rfl) (Nat.le_refl _) (Nat.le_of_ble_eq_true rfl) (Nat.le_of_ble_eq_true rfl) ?_
      exact X_iret rfl rfl (a_retG (by unfold a_special a_ifv; rw [if_pos h2, es, if_pos h16])) (Nat.le_of_ble_eq_true rfl) (Nat.le_of_ble_eq_true rfl)
    · refine X_mcall l_X11_X11_takesValues (c_takesValuesF hG (d + 3) w (updI_I3 hw) hw9 s (by omega) hs2 h16 updI_eq) rfl rfl rfl rfl (Nat.le_of_ble_eq_true rfl) (Nat.le_of_ble_eq_true rfl) (Nat.le_refl _) (Nat.le_of_ble_eq_true rfl) (Nat.le_of_ble_eq_true rfl) ?_
      refine X_heap (N' := mset B (upd I 0 2) T S rd tx gv (fun i => b2 (P i))) (by rw [upd_upd]) ?_
      refine X_if_ne rfl (fun c19 => absurd (by decide) c19) (fun c19 => ?_)
      refine X_push (v := .int 0) rfl (by decide +kernel) ?_
      refine X_goto rfl ?_
      exact X_iret rfl rfl (a_retG (by unfold a_special a_ifv; rw [if_pos h2, es, if_neg h16])) (Nat.le_of_ble_eq_true rfl) (Nat.le_of_ble_eq_true rfl)
  · refine X_mcall l_X11_X11_noStatement (c_noStatementF hG (d + 5) w hw hw9 h2) rfl rfl rfl rfl (Nat.le_of_ble_eq_true rfl) (Nat.le_of_ble_eq_true rfl) (Nat.le_refl _) (Nat.le_of_ble_eq_true rfl) (Nat.le_of_ble_eq_true rfl) ?_
    refine X_if_ne rfl (fun c5 => ?_) (fun c5 => absurd c5 (by decide))
    refine X_push (v := .int 0) rfl (by decide +kernel) ?_
    refine X_goto rfl ?_
    exact X_iret rfl rfl (a_retG (by unfold a_special a_ifv; rw [if_neg h2])) (Nat.le_of_ble_eq_true rfl) (Nat.le_of_ble_eq_true rfl)
def a_specialCost (c : Nat → Int32) (x y v0 v1 v2 v3 : Int32) : Int32 × Int32 :=
  if (0 : Int32) ≤ x ∧ x ≤ c 2 - 1 then (if (-1 : Int32) ≤ y ∧ y ≤ c 0 - 1 then (if s_vok c (n_ x) v0 v1 v2 v3 then (0, s_cost c (s_gv v0 v1 v2 v3) (n_ x) y true) else (2, 0)) else (2, 0)) else (1, 0)
theorem c_specialCost {G : XE} (hG : x_Kn G) {B : XH} {I : Nat → Int32} {T : Int64} {S : Nat → Nat → Int32} {rd tx gv : Nat → Int32} {P : Nat → Bool} (d : Nat) (w : Nat) (hw : I 3 = nI w) (hw9 : w < 9) (hwf : s_wf (S w)) {x y v0 v1 v2 v3 : Int32} : x_M G mX11_specialCost (d + 6) 0 0 [.ref 275, .int x, .int y, .int v0, .int v1, .int v2, .int v3] (mset B I T S rd tx gv (fun i => b2 (P i))) (x_RetG B I T S rd tx (a_specialCost (S w) x y v0 v1 v2 v3)) x_noX := by
  refine X_M hG okX11_specialCost rfl (L := [some (.ref 275), some (.int x), some (.int y), some (.int v0), some (.int v1), some (.int v2), some (.int v3)]) rfl (Nat.le_of_ble_eq_true rfl) (fun ad0 nb0 => ?_)
  have hcm5 := hwf.cmE.2
  have hlm40 := hwf.lmE.2
  have hsm6 := hwf.smE.2
  refine X_ld rfl rfl rfl rfl ?_
  refine X_ld rfl rfl rfl rfl ?_
  by_cases h2 : (0 : Int32) ≤ x ∧ x ≤ S w 2 - 1
  · refine X_mcall l_X11_X11_noStatement (c_noStatementT hG (d + 4) w hw hw9 h2) rfl rfl rfl rfl (Nat.le_of_ble_eq_true rfl) (Nat.le_of_ble_eq_true rfl) (Nat.le_refl _) (Nat.le_of_ble_eq_true rfl) (Nat.le_of_ble_eq_true rfl) ?_
    refine X_if_ne rfl (fun c5 => absurd (by decide) c5) (fun c5 => ?_)
    obtain ⟨s, hs1, hs2⟩ := m_rng hwf.smE.1 (by have := hwf.smE.2; omega) h2
    have es : n_ x = s := by unfold n_; rw [hs2]; exact nI_clamp (by omega)
    refine X_ld rfl rfl rfl rfl ?_
    refine X_ld rfl rfl rfl rfl ?_
    refine X_ld rfl rfl rfl rfl ?_
    refine X_mcall l_X11_X11_isPlan (c_isPlan hG (d + 4) w (updI_I3 hw) hw9) rfl rfl rfl rfl (Nat.le_of_ble_eq_true rfl) (Nat.le_of_ble_eq_true rfl) (Nat.le_refl _) (Nat.le_of_ble_eq_true rfl) (Nat.le_of_ble_eq_true rfl) ?_
    refine X_push (v := .int 2) rfl (by decide +kernel) ?_
    by_cases h15 : (-1 : Int32) ≤ y ∧ y ≤ S w 0 - 1
    · refine X_mcall l_X11_X11_right (c_rightT hG (d + 5) h15 updI_eq) rfl rfl rfl rfl (Nat.le_of_ble_eq_true rfl) (Nat.le_of_ble_eq_true rfl) (Nat.le_refl _) (Nat.le_of_ble_eq_true rfl) (Nat.le_of_ble_eq_true rfl) ?_
      refine X_if_eq rfl (fun c18 => absurd c18 (by decide)) (fun c18 => ?_)
      refine X_ld rfl rfl rfl rfl ?_
      refine X_ld rfl rfl rfl rfl ?_
      refine X_ld rfl rfl rfl rfl ?_
      refine X_ld rfl rfl rfl rfl ?_
      refine X_ld rfl rfl rfl rfl ?_
      refine X_ld rfl rfl rfl rfl ?_
      by_cases h30 : s_vok (S w) s v0 v1 v2 v3
      · refine X_mcall l_X11_X11_takesValues (c_takesValuesT hG (d + 2) w (updI_I3 hw) hw9 s (by omega) hs2 h30 updI_eq) rfl rfl rfl rfl (Nat.le_of_ble_eq_true rfl) (Nat.le_of_ble_eq_true rfl) (Nat.le_refl _) (Nat.le_of_ble_eq_true rfl) (Nat.le_of_ble_eq_true rfl) ?_
        refine X_if_ne rfl (fun c33 => ?_) (fun c33 => absurd c33 (by decide))
        refine X_ld rfl rfl rfl rfl ?_
        refine X_ld rfl rfl rfl rfl ?_
        refine X_ld rfl rfl rfl rfl ?_
        refine X_push (v := .int 1) rfl (by decide +kernel) ?_
        refine X_mcall l_X11_X11_costOf (c_costOf hG d w (updI_I3 hw) hw9 s (by omega) (hwf.kok hs1) true hs2 (m_plan5 hwf.cmE.1 hwf.cmE.2 h15)) rfl rfl rfl rfl (Nat.le_of_ble_eq_true rfl) (Nat.le_of_ble_eq_true rfl) (Nat.le_refl _) (Nat.le_of_ble_eq_true rfl) (Nat.le_of_ble_eq_true rfl) ?_
        exact X_iret rfl rfl (a_retG (by unfold a_specialCost; rw [if_pos h2, if_pos h15, es, if_pos h30])) (Nat.le_of_ble_eq_true rfl) (Nat.le_of_ble_eq_true rfl)
      · refine X_mcall l_X11_X11_takesValues (c_takesValuesF hG (d + 2) w (updI_I3 hw) hw9 s (by omega) hs2 h30 updI_eq) rfl rfl rfl rfl (Nat.le_of_ble_eq_true rfl) (Nat.le_of_ble_eq_true rfl) (Nat.le_refl _) (Nat.le_of_ble_eq_true rfl) (Nat.le_of_ble_eq_true rfl) ?_
        refine X_heap (N' := mset B (upd I 0 2) T S rd tx gv (fun i => b2 (P i))) (by rw [upd_upd]) ?_
        refine X_if_ne rfl (fun c33 => absurd (by decide) c33) (fun c33 => ?_)
        refine X_push (v := .int 0) rfl (by decide +kernel) ?_
        refine X_goto rfl ?_
        exact X_iret rfl rfl (a_retG (by unfold a_specialCost; rw [if_pos h2, if_pos h15, es, if_neg h30])) (Nat.le_of_ble_eq_true rfl) (Nat.le_of_ble_eq_true rfl)
    · refine X_mcall l_X11_X11_right (c_rightF hG (d + 5) h15 updI_eq (by decide)) rfl rfl rfl rfl (Nat.le_of_ble_eq_true rfl) (Nat.le_of_ble_eq_true rfl) (Nat.le_refl _) (Nat.le_of_ble_eq_true rfl) (Nat.le_of_ble_eq_true rfl) ?_
      refine X_heap (N' := mset B (upd I 0 2) T S rd tx gv (fun i => b2 (P i))) (by rw [upd_upd]) ?_
      refine X_if_eq rfl (fun c18 => ?_) (fun c18 => absurd (by decide) c18)
      refine X_push (v := .int 0) rfl (by decide +kernel) ?_
      refine X_goto rfl ?_
      exact X_iret rfl rfl (a_retG (by unfold a_specialCost; rw [if_pos h2, if_neg h15])) (Nat.le_of_ble_eq_true rfl) (Nat.le_of_ble_eq_true rfl)
  · refine X_mcall l_X11_X11_noStatement (c_noStatementF hG (d + 4) w hw hw9 h2) rfl rfl rfl rfl (Nat.le_of_ble_eq_true rfl) (Nat.le_of_ble_eq_true rfl) (Nat.le_refl _) (Nat.le_of_ble_eq_true rfl) (Nat.le_of_ble_eq_true rfl) ?_
    refine X_if_ne rfl (fun c5 => ?_) (fun c5 => absurd c5 (by decide))
    refine X_push (v := .int 0) rfl (by decide +kernel) ?_
    refine X_goto rfl ?_
    exact X_iret rfl rfl (a_retG (by unfold a_specialCost; rw [if_neg h2])) (Nat.le_of_ble_eq_true rfl) (Nat.le_of_ble_eq_true rfl)
def s_wplan (c gv : Nat → Int32) (s : Nat) : Int32 := if s_fresh c s then s_st c s 14 else s_best c gv s (s_cm c) false
def s_wcost (c gv : Nat → Int32) (s : Nat) : Int32 := if s_fresh c s then s_st c s 15 else s_cost c gv s (s_wplan c gv s) false
/-- what a run would use -/
def s_would (c gv : Nat → Int32) (s : Nat) : Int32 :=
  if s_st c s 8 < c 7 then 2 * (s_best c gv s (s_cm c) true + 1) else if s_gen c s (s_wcost c gv s) then 2 * (s_wplan c gv s + 1) + 1 else 2 * (s_best c gv s (s_cm c) true + 1)
def a_wouldUse (c : Nat → Int32) (x v0 v1 v2 v3 : Int32) : Int32 × Int32 := a_ifv c x v0 v1 v2 v3 0 (s_would c (s_gv v0 v1 v2 v3) (n_ x))
theorem s_best5 {c gv : Nat → Int32} {s m : Nat} {z : Bool} (hm : m ≤ 5) : s_best c gv s m z = -1 ∨ ∃ j, j < 5 ∧ s_best c gv s m z = nI j := by
  rcases s_best_ok (c := c) (gv := gv) (s := s) (z := z) m with h | ⟨j, h1, h2⟩
  · exact Or.inl h
  · exact Or.inr ⟨j, by omega, h2⟩
theorem c_wouldUse {G : XE} (hG : x_Kn G) {B : XH} {I : Nat → Int32} {T : Int64} {S : Nat → Nat → Int32} {rd tx gv : Nat → Int32} {P : Nat → Bool} (d : Nat) (w : Nat) (hw : I 3 = nI w) (hw9 : w < 9) (hwf : s_wf (S w)) {x v0 v1 v2 v3 : Int32} : x_M G mX11_wouldUse (d + 7) 0 0 [.ref 275, .int x, .int v0, .int v1, .int v2, .int v3] (mset B I T S rd tx gv (fun i => b2 (P i))) (x_RetG B I T S rd tx (a_wouldUse (S w) x v0 v1 v2 v3)) x_noX := by
  refine X_M hG okX11_wouldUse rfl (L := [some (.ref 275), some (.int x), some (.int v0), some (.int v1), some (.int v2), some (.int v3), none, none]) rfl (Nat.le_of_ble_eq_true rfl) (fun ad0 nb0 => ?_)
  have hcm5 := hwf.cmE.2
  have hlm40 := hwf.lmE.2
  have hsm6 := hwf.smE.2
  refine X_ld rfl rfl rfl rfl ?_
  refine X_ld rfl rfl rfl rfl ?_
  by_cases h2 : (0 : Int32) ≤ x ∧ x ≤ S w 2 - 1
  · refine X_mcall l_X11_X11_noStatement (c_noStatementT hG (d + 5) w hw hw9 h2) rfl rfl rfl rfl (Nat.le_of_ble_eq_true rfl) (Nat.le_of_ble_eq_true rfl) (Nat.le_refl _) (Nat.le_of_ble_eq_true rfl) (Nat.le_of_ble_eq_true rfl) ?_
    refine X_if_ne rfl (fun c5 => absurd (by decide) c5) (fun c5 => ?_)
    obtain ⟨s, hs1, hs2⟩ := m_rng hwf.smE.1 (by have := hwf.smE.2; omega) h2
    have es : n_ x = s := by unfold n_; rw [hs2]; exact nI_clamp (by omega)
    refine X_ld rfl rfl rfl rfl ?_
    refine X_ld rfl rfl rfl rfl ?_
    refine X_ld rfl rfl rfl rfl ?_
    refine X_ld rfl rfl rfl rfl ?_
    refine X_ld rfl rfl rfl rfl ?_
    refine X_ld rfl rfl rfl rfl ?_
    by_cases h16 : s_vok (S w) s v0 v1 v2 v3
    · refine X_mcall l_X11_X11_takesValues (c_takesValuesT hG (d + 3) w (updI_I3 hw) hw9 s (by omega) hs2 h16 updI_eq) rfl rfl rfl rfl (Nat.le_of_ble_eq_true rfl) (Nat.le_of_ble_eq_true rfl) (Nat.le_refl _) (Nat.le_of_ble_eq_true rfl) (Nat.le_of_ble_eq_true rfl) ?_
      refine X_if_ne rfl (fun c19 => ?_) (fun c19 => absurd c19 (by decide))
      refine X_ld rfl rfl rfl rfl ?_
      refine X_ld rfl rfl rfl rfl ?_
      refine X_push (v := .int 8) rfl (by decide +kernel) ?_
      refine X_mcall l_X11_X11_ofStatement (c_ofStatement hG (d + 5) w (updI_I3 hw) hw9 s 8 (by omega) hs2 (show (8 : Int32) = nI 8 from rfl)) rfl rfl rfl rfl (Nat.le_of_ble_eq_true rfl) (Nat.le_of_ble_eq_true rfl) (Nat.le_refl _) (Nat.le_of_ble_eq_true rfl) (Nat.le_of_ble_eq_true rfl) ?_
      refine X_ld rfl rfl rfl rfl ?_
      refine X_push (v := .int 7) rfl (by decide +kernel) ?_
      refine X_mcall l_X11_X11_get (c_get hG (d + 6) w (updI_I3 hw) hw9 7 (by omega) (show (7 : Int32) = nI 7 from rfl)) rfl rfl rfl rfl (Nat.le_of_ble_eq_true rfl) (Nat.le_of_ble_eq_true rfl) (Nat.le_refl _) (Nat.le_of_ble_eq_true rfl) (Nat.le_of_ble_eq_true rfl) ?_
      refine X_icmp_ge rfl (fun c37 => ?_) (fun c37 => ?_)
      · refine X_ld rfl rfl rfl rfl ?_
        refine X_ld rfl rfl rfl rfl ?_
        refine X_mcall l_X11_X11_isFresh (c_isFresh hG (d + 4) w (updI_I3 hw) hw9 s (by omega) hs2) rfl rfl rfl rfl (Nat.le_of_ble_eq_true rfl) (Nat.le_of_ble_eq_true rfl) (Nat.le_refl _) (Nat.le_of_ble_eq_true rfl) (Nat.le_of_ble_eq_true rfl) ?_
        refine X_if_eq rfl (fun c56 => ?_) (fun c56 => ?_)
        · have h56 : ¬ (s_fresh (S w) s) := fun q => bI_ne.mpr q c56
          refine X_ld rfl rfl rfl rfl ?_
          refine X_ld rfl rfl rfl rfl ?_
          refine X_push (v := .int 0) rfl (by decide +kernel) ?_
          refine X_mcall l_X11_X11_bestPlan (c_bestPlan hG d w (updI_I3 hw) hw9 (s_cm (S w)) hwf.cmE.1 hwf.cmE.2 s (by omega) (hwf.kok hs1) false hs2) rfl rfl rfl rfl (Nat.le_of_ble_eq_true rfl) (Nat.le_of_ble_eq_true rfl) (Nat.le_refl _) (Nat.le_of_ble_eq_true rfl) (Nat.le_of_ble_eq_true rfl) ?_
          refine X_st rfl rfl rfl ?_
          refine X_ld rfl rfl rfl rfl ?_
          refine X_ld rfl rfl rfl rfl ?_
          refine X_mcall l_X11_X11_isFresh (c_isFresh hG (d + 4) w (updI_I3 hw) hw9 s (by omega) hs2) rfl rfl rfl rfl (Nat.le_of_ble_eq_true rfl) (Nat.le_of_ble_eq_true rfl) (Nat.le_refl _) (Nat.le_of_ble_eq_true rfl) (Nat.le_of_ble_eq_true rfl) ?_
          refine X_if_eq rfl (fun c82 => ?_) (fun c82 => absurd (bI_ne.mp c82) h56)
          refine X_ld rfl rfl rfl rfl ?_
          refine X_ld rfl rfl rfl rfl ?_
          refine X_ld rfl rfl rfl rfl ?_
          refine X_push (v := .int 0) rfl (by decide +kernel) ?_
          refine X_mcall l_X11_X11_costOf (c_costOf hG (d + 1) w (updI_I3 hw) hw9 s (by omega) (hwf.kok hs1) false hs2 (s_best5 hwf.cmE.2)) rfl rfl rfl rfl (Nat.le_of_ble_eq_true rfl) (Nat.le_of_ble_eq_true rfl) (Nat.le_refl _) (Nat.le_of_ble_eq_true rfl) (Nat.le_of_ble_eq_true rfl) ?_
          refine X_st rfl rfl rfl ?_
          refine X_ld rfl rfl rfl rfl ?_
          refine X_ld rfl rfl rfl rfl ?_
          refine X_ld rfl rfl rfl rfl ?_
          refine X_mcall l_X11_X11_isGeneric (c_isGeneric hG (d + 4) w (updI_I3 hw) hw9 s (by omega) hs2) rfl rfl rfl rfl (Nat.le_of_ble_eq_true rfl) (Nat.le_of_ble_eq_true rfl) (Nat.le_refl _) (Nat.le_of_ble_eq_true rfl) (Nat.le_of_ble_eq_true rfl) ?_
          refine X_if_eq rfl (fun c112 => ?_) (fun c112 => ?_)
          · have h112 : ¬ (s_gen (S w) s (s_cost (S w) (s_gv v0 v1 v2 v3) s (s_best (S w) (s_gv v0 v1 v2 v3) s (s_cm (S w)) false) false)) := fun q => bI_ne.mpr q c112
            refine X_push (v := .int 2) rfl (by decide +kernel) ?_
            refine X_ld rfl rfl rfl rfl ?_
            refine X_ld rfl rfl rfl rfl ?_
            refine X_push (v := .int 1) rfl (by decide +kernel) ?_
            refine X_mcall l_X11_X11_bestPlan (c_bestPlan hG d w (updI_I3 hw) hw9 (s_cm (S w)) hwf.cmE.1 hwf.cmE.2 s (by omega) (hwf.kok hs1) true hs2) rfl rfl rfl rfl (Nat.le_of_ble_eq_true rfl) (Nat.le_of_ble_eq_true rfl) (Nat.le_refl _) (Nat.le_of_ble_eq_true rfl) (Nat.le_of_ble_eq_true rfl) ?_
            refine X_push (v := .int 1) rfl (by decide +kernel) ?_
            refine X_bin rfl rfl ?_
            refine X_bin rfl rfl ?_
            exact X_iret rfl rfl (a_retG (by unfold a_wouldUse a_ifv s_would; rw [if_pos h2, es, if_pos h16, if_neg (Int32.not_lt.mpr c37), (show s_wcost (S w) (s_gv v0 v1 v2 v3) s = _ from by unfold s_wcost; rw [if_neg h56, (show s_wplan (S w) (s_gv v0 v1 v2 v3) s = _ from by unfold s_wplan; rw [if_neg h56])]), (show s_wplan (S w) (s_gv v0 v1 v2 v3) s = _ from by unfold s_wplan; rw [if_neg h56]), if_neg h112])) (Nat.le_of_ble_eq_true rfl) (Nat.le_of_ble_eq_true rfl)
          · have h112 : s_gen (S w) s (s_cost (S w) (s_gv v0 v1 v2 v3) s (s_best (S w) (s_gv v0 v1 v2 v3) s (s_cm (S w)) false) false) := bI_ne.mp c112
            refine X_push (v := .int 2) rfl (by decide +kernel) ?_
            refine X_ld rfl rfl rfl rfl ?_
            refine X_push (v := .int 1) rfl (by decide +kernel) ?_
            refine X_bin rfl rfl ?_
            refine X_bin rfl rfl ?_
            refine X_push (v := .int 1) rfl (by decide +kernel) ?_
            refine X_bin rfl rfl ?_
            refine X_goto rfl ?_
            exact X_iret rfl rfl (a_retG (by unfold a_wouldUse a_ifv s_would; rw [if_pos h2, es, if_pos h16, if_neg (Int32.not_lt.mpr c37), (show s_wcost (S w) (s_gv v0 v1 v2 v3) s = _ from by unfold s_wcost; rw [if_neg h56, (show s_wplan (S w) (s_gv v0 v1 v2 v3) s = _ from by unfold s_wplan; rw [if_neg h56])]), (show s_wplan (S w) (s_gv v0 v1 v2 v3) s = _ from by unfold s_wplan; rw [if_neg h56]), if_pos h112])) (Nat.le_of_ble_eq_true rfl) (Nat.le_of_ble_eq_true rfl)
        · have h56 : s_fresh (S w) s := bI_ne.mp c56
          refine X_ld rfl rfl rfl rfl ?_
          refine X_ld rfl rfl rfl rfl ?_
          refine X_push (v := .int 14) rfl (by decide +kernel) ?_
          refine X_mcall l_X11_X11_ofStatement (c_ofStatement hG (d + 5) w (updI_I3 hw) hw9 s 14 (by omega) hs2 (show (14 : Int32) = nI 14 from rfl)) rfl rfl rfl rfl (Nat.le_of_ble_eq_true rfl) (Nat.le_of_ble_eq_true rfl) (Nat.le_refl _) (Nat.le_of_ble_eq_true rfl) (Nat.le_of_ble_eq_true rfl) ?_
          refine X_goto rfl ?_
          refine X_st rfl rfl rfl ?_
          refine X_ld rfl rfl rfl rfl ?_
          refine X_ld rfl rfl rfl rfl ?_
          refine X_mcall l_X11_X11_isFresh (c_isFresh hG (d + 4) w (updI_I3 hw) hw9 s (by omega) hs2) rfl rfl rfl rfl (Nat.le_of_ble_eq_true rfl) (Nat.le_of_ble_eq_true rfl) (Nat.le_refl _) (Nat.le_of_ble_eq_true rfl) (Nat.le_of_ble_eq_true rfl) ?_
          refine X_if_eq rfl (fun c82 => absurd c82 (bI_ne.mpr h56)) (fun c82 => ?_)
          refine X_ld rfl rfl rfl rfl ?_
          refine X_ld rfl rfl rfl rfl ?_
          refine X_push (v := .int 15) rfl (by decide +kernel) ?_
          refine X_mcall l_X11_X11_ofStatement (c_ofStatement hG (d + 5) w (updI_I3 hw) hw9 s 15 (by omega) hs2 (show (15 : Int32) = nI 15 from rfl)) rfl rfl rfl rfl (Nat.le_of_ble_eq_true rfl) (Nat.le_of_ble_eq_true rfl) (Nat.le_refl _) (Nat.le_of_ble_eq_true rfl) (Nat.le_of_ble_eq_true rfl) ?_
          refine X_goto rfl ?_
          refine X_st rfl rfl rfl ?_
          refine X_ld rfl rfl rfl rfl ?_
          refine X_ld rfl rfl rfl rfl ?_
          refine X_ld rfl rfl rfl rfl ?_
          refine X_mcall l_X11_X11_isGeneric (c_isGeneric hG (d + 4) w (updI_I3 hw) hw9 s (by omega) hs2) rfl rfl rfl rfl (Nat.le_of_ble_eq_true rfl) (Nat.le_of_ble_eq_true rfl) (Nat.le_refl _) (Nat.le_of_ble_eq_true rfl) (Nat.le_of_ble_eq_true rfl) ?_
          refine X_if_eq rfl (fun c112 => ?_) (fun c112 => ?_)
          · have h112 : ¬ (s_gen (S w) s (s_st (S w) s 15)) := fun q => bI_ne.mpr q c112
            refine X_push (v := .int 2) rfl (by decide +kernel) ?_
            refine X_ld rfl rfl rfl rfl ?_
            refine X_ld rfl rfl rfl rfl ?_
            refine X_push (v := .int 1) rfl (by decide +kernel) ?_
            refine X_mcall l_X11_X11_bestPlan (c_bestPlan hG d w (updI_I3 hw) hw9 (s_cm (S w)) hwf.cmE.1 hwf.cmE.2 s (by omega) (hwf.kok hs1) true hs2) rfl rfl rfl rfl (Nat.le_of_ble_eq_true rfl) (Nat.le_of_ble_eq_true rfl) (Nat.le_refl _) (Nat.le_of_ble_eq_true rfl) (Nat.le_of_ble_eq_true rfl) ?_
            refine X_push (v := .int 1) rfl (by decide +kernel) ?_
            refine X_bin rfl rfl ?_
            refine X_bin rfl rfl ?_
            exact X_iret rfl rfl (a_retG (by unfold a_wouldUse a_ifv s_would; rw [if_pos h2, es, if_pos h16, if_neg (Int32.not_lt.mpr c37), (show s_wcost (S w) (s_gv v0 v1 v2 v3) s = _ from by unfold s_wcost; rw [if_pos h56]), (show s_wplan (S w) (s_gv v0 v1 v2 v3) s = _ from by unfold s_wplan; rw [if_pos h56]), if_neg h112])) (Nat.le_of_ble_eq_true rfl) (Nat.le_of_ble_eq_true rfl)
          · have h112 : s_gen (S w) s (s_st (S w) s 15) := bI_ne.mp c112
            refine X_push (v := .int 2) rfl (by decide +kernel) ?_
            refine X_ld rfl rfl rfl rfl ?_
            refine X_push (v := .int 1) rfl (by decide +kernel) ?_
            refine X_bin rfl rfl ?_
            refine X_bin rfl rfl ?_
            refine X_push (v := .int 1) rfl (by decide +kernel) ?_
            refine X_bin rfl rfl ?_
            refine X_goto rfl ?_
            exact X_iret rfl rfl (a_retG (by unfold a_wouldUse a_ifv s_would; rw [if_pos h2, es, if_pos h16, if_neg (Int32.not_lt.mpr c37), (show s_wcost (S w) (s_gv v0 v1 v2 v3) s = _ from by unfold s_wcost; rw [if_pos h56]), (show s_wplan (S w) (s_gv v0 v1 v2 v3) s = _ from by unfold s_wplan; rw [if_pos h56]), if_pos h112])) (Nat.le_of_ble_eq_true rfl) (Nat.le_of_ble_eq_true rfl)
      · refine X_push (v := .int 2) rfl (by decide +kernel) ?_
        refine X_ld rfl rfl rfl rfl ?_
        refine X_ld rfl rfl rfl rfl ?_
        refine X_push (v := .int 1) rfl (by decide +kernel) ?_
        refine X_mcall l_X11_X11_bestPlan (c_bestPlan hG d w (updI_I3 hw) hw9 (s_cm (S w)) hwf.cmE.1 hwf.cmE.2 s (by omega) (hwf.kok hs1) true hs2) rfl rfl rfl rfl (Nat.le_of_ble_eq_true rfl) (Nat.le_of_ble_eq_true rfl) (Nat.le_refl _) (Nat.le_of_ble_eq_true rfl) (Nat.le_of_ble_eq_true rfl) ?_
        refine X_push (v := .int 1) rfl (by decide +kernel) ?_
        refine X_bin rfl rfl ?_
        refine X_bin rfl rfl ?_
        exact X_iret rfl rfl (a_retG (by unfold a_wouldUse a_ifv s_would; rw [if_pos h2, es, if_pos h16, if_pos (Int32.not_le.mp c37)])) (Nat.le_of_ble_eq_true rfl) (Nat.le_of_ble_eq_true rfl)
    · refine X_mcall l_X11_X11_takesValues (c_takesValuesF hG (d + 3) w (updI_I3 hw) hw9 s (by omega) hs2 h16 updI_eq) rfl rfl rfl rfl (Nat.le_of_ble_eq_true rfl) (Nat.le_of_ble_eq_true rfl) (Nat.le_refl _) (Nat.le_of_ble_eq_true rfl) (Nat.le_of_ble_eq_true rfl) ?_
      refine X_heap (N' := mset B (upd I 0 2) T S rd tx gv (fun i => b2 (P i))) (by rw [upd_upd]) ?_
      refine X_if_ne rfl (fun c19 => absurd (by decide) c19) (fun c19 => ?_)
      refine X_push (v := .int 0) rfl (by decide +kernel) ?_
      exact X_iret rfl rfl (a_retG (by unfold a_wouldUse a_ifv; rw [if_pos h2, es, if_neg h16])) (Nat.le_of_ble_eq_true rfl) (Nat.le_of_ble_eq_true rfl)
  · refine X_mcall l_X11_X11_noStatement (c_noStatementF hG (d + 5) w hw hw9 h2) rfl rfl rfl rfl (Nat.le_of_ble_eq_true rfl) (Nat.le_of_ble_eq_true rfl) (Nat.le_refl _) (Nat.le_of_ble_eq_true rfl) (Nat.le_of_ble_eq_true rfl) ?_
    refine X_if_ne rfl (fun c5 => ?_) (fun c5 => absurd c5 (by decide))
    refine X_push (v := .int 0) rfl (by decide +kernel) ?_
    exact X_iret rfl rfl (a_retG (by unfold a_wouldUse a_ifv; rw [if_neg h2])) (Nat.le_of_ble_eq_true rfl) (Nat.le_of_ble_eq_true rfl)
def s_bit (n : Nat) : Int64 := 1 <<< ((nI n).toInt64 &&& 63)
/-- the first n lines that a statement finds -/
def s_rws (c gv : Nat → Int32) (s : Nat) : Nat → Int64
  | 0 => 0
  | n + 1 => s_rws c gv s n ||| (bif s_find c gv s n then s_bit n else 0)
def s_pls (c gv : Nat → Int32) (s : Nat) (P : Nat → Bool) : Nat → Nat → Bool
  | 0 => P
  | n + 1 => s_px c gv n (s_from c s) (s_pls c gv s P n) (s_to c s - s_from c s)
def a_rows (c : Nat → Int32) (x v0 v1 v2 v3 : Int32) : Int32 × Int64 := a_ifv c x v0 v1 v2 v3 0 (s_rws c (s_gv v0 v1 v2 v3) (n_ x) (s_lm c))
theorem c_rows {G : XE} (hG : x_Kn G) {B : XH} {I : Nat → Int32} {T : Int64} {S : Nat → Nat → Int32} {rd tx gv : Nat → Int32} {P : Nat → Bool} (d : Nat) (w : Nat) (hw : I 3 = nI w) (hw9 : w < 9) (hwf : s_wf (S w)) {x v0 v1 v2 v3 : Int32} : x_M G mX11_rows (d + 5) 0 0 [.ref 275, .int x, .int v0, .int v1, .int v2, .int v3] (mset B I T S rd tx gv (fun i => b2 (P i))) (x_RetGL B I T S rd tx (a_rows (S w) x v0 v1 v2 v3)) x_noX := by
  refine X_M hG okX11_rows rfl (L := [some (.ref 275), some (.int x), some (.int v0), some (.int v1), some (.int v2), some (.int v3), none, none, none]) rfl (Nat.le_of_ble_eq_true rfl) (fun ad0 nb0 => ?_)
  have hcm5 := hwf.cmE.2
  have hlm40 := hwf.lmE.2
  have hsm6 := hwf.smE.2
  refine X_ld rfl rfl rfl rfl ?_
  refine X_ld rfl rfl rfl rfl ?_
  by_cases h2 : (0 : Int32) ≤ x ∧ x ≤ S w 2 - 1
  · refine X_mcall l_X11_X11_noStatement (c_noStatementT hG (d + 3) w hw hw9 h2) rfl rfl rfl rfl (Nat.le_of_ble_eq_true rfl) (Nat.le_of_ble_eq_true rfl) (Nat.le_refl _) (Nat.le_of_ble_eq_true rfl) (Nat.le_of_ble_eq_true rfl) ?_
    refine X_if_ne rfl (fun c5 => absurd (by decide) c5) (fun c5 => ?_)
    obtain ⟨s, hs1, hs2⟩ := m_rng hwf.smE.1 (by have := hwf.smE.2; omega) h2
    have es : n_ x = s := by unfold n_; rw [hs2]; exact nI_clamp (by omega)
    refine X_ld rfl rfl rfl rfl ?_
    refine X_ld rfl rfl rfl rfl ?_
    refine X_ld rfl rfl rfl rfl ?_
    refine X_ld rfl rfl rfl rfl ?_
    refine X_ld rfl rfl rfl rfl ?_
    refine X_ld rfl rfl rfl rfl ?_
    by_cases h16 : s_vok (S w) s v0 v1 v2 v3
    · refine X_mcall l_X11_X11_takesValues (c_takesValuesT hG (d + 1) w (updI_I3 hw) hw9 s (by omega) hs2 h16 updI_eq) rfl rfl rfl rfl (Nat.le_of_ble_eq_true rfl) (Nat.le_of_ble_eq_true rfl) (Nat.le_refl _) (Nat.le_of_ble_eq_true rfl) (Nat.le_of_ble_eq_true rfl) ?_
      refine X_if_ne rfl (fun c19 => ?_) (fun c19 => absurd c19 (by decide))
      have loop : x_W G mX11_rows (x_Z G (d + 5) 0 0 ad0 nb0 (x_RetGL B I T S rd tx (a_rows (S w) x v0 v1 v2 v3)) x_noX) (mset B (upd I 0 0) T S rd tx (s_gv v0 v1 v2 v3) (fun i => b2 (s_pls (S w) (s_gv v0 v1 v2 v3) s P (s_lm (S w)) i))) 0 0 69 [some (.ref 275), some (.int x), none, none, none, none, some (.long (s_rws (S w) (s_gv v0 v1 v2 v3) s (s_lm (S w)))), none, some (.int (nI (s_lm (S w))))] [] → ∀ (f9 k : Nat), k + f9 = (s_lm (S w)) → x_W G mX11_rows (x_Z G (d + 5) 0 0 ad0 nb0 (x_RetGL B I T S rd tx (a_rows (S w) x v0 v1 v2 v3)) x_noX) (mset B (upd I 0 0) T S rd tx (s_gv v0 v1 v2 v3) (fun i => b2 (s_pls (S w) (s_gv v0 v1 v2 v3) s P k i))) 0 0 30 [some (.ref 275), some (.int x), none, none, none, none, some (.long (s_rws (S w) (s_gv v0 v1 v2 v3) s k)), none, some (.int (nI k))] [] := by
        intro K f9
        induction f9 with
        | zero =>
          intro k e0 
          obtain rfl : k = (s_lm (S w)) := by omega
          refine X_ld rfl rfl rfl rfl ?_
          refine X_ld rfl rfl rfl rfl ?_
          refine X_push (v := .int 1) rfl (by decide +kernel) ?_
          refine X_mcall l_X11_X11_get (c_get hG (d + 4) w (updI_I3 hw) hw9 1 (by omega) (show (1 : Int32) = nI 1 from rfl)) rfl rfl rfl rfl (Nat.le_of_ble_eq_true rfl) (Nat.le_of_ble_eq_true rfl) (Nat.le_refl _) (Nat.le_of_ble_eq_true rfl) (Nat.le_of_ble_eq_true rfl) ?_
          refine X_icmp_ge rfl (fun c37 => ?_) (fun c37 => absurd ((n_le hwf.lmE.1 rfl (by omega) (by omega)).mpr (by omega)) c37)
          exact K
        | succ f9 ih =>
          intro k e0 
          refine X_ld rfl rfl rfl rfl ?_
          refine X_ld rfl rfl rfl rfl ?_
          refine X_push (v := .int 1) rfl (by decide +kernel) ?_
          refine X_mcall l_X11_X11_get (c_get hG (d + 4) w (updI_I3 hw) hw9 1 (by omega) (show (1 : Int32) = nI 1 from rfl)) rfl rfl rfl rfl (Nat.le_of_ble_eq_true rfl) (Nat.le_of_ble_eq_true rfl) (Nat.le_refl _) (Nat.le_of_ble_eq_true rfl) (Nat.le_of_ble_eq_true rfl) ?_
          refine X_icmp_ge rfl (fun c37 => absurd ((n_le hwf.lmE.1 rfl (by omega) (by omega)).mp c37) (by omega)) (fun c37 => ?_)
          refine X_ld rfl rfl rfl rfl ?_
          refine X_ld rfl rfl rfl rfl ?_
          refine X_ld rfl rfl rfl rfl ?_
          refine X_ld rfl rfl rfl rfl ?_
          refine X_mcall l_X11_X11_finds (c_finds hG d w (updI_I3 hw) hw9 s k (by omega) (by omega) (hwf.kok hs1) (hwf.fok hs1) hs2 rfl (P := s_pls (S w) (s_gv v0 v1 v2 v3) s P k)) rfl rfl rfl rfl (Nat.le_of_ble_eq_true rfl) (Nat.le_of_ble_eq_true rfl) (Nat.le_refl _) (Nat.le_of_ble_eq_true rfl) (Nat.le_of_ble_eq_true rfl) ?_
          refine X_if_eq rfl (fun c49 => ?_) (fun c49 => ?_)
          · have h49 : (s_find (S w) (s_gv v0 v1 v2 v3) s k) = false := b2_0 c49
            refine X_push (v := .long 0) rfl (by decide +kernel) ?_
            refine X_bin rfl rfl ?_
            refine X_stl rfl rfl rfl ?_
            refine X_iinc rfl rfl rfl ?_
            refine X_goto rfl ?_
            have e : s_rws (S w) (s_gv v0 v1 v2 v3) s (k + 1) = s_rws (S w) (s_gv v0 v1 v2 v3) s k ||| 0 := (show s_rws (S w) (s_gv v0 v1 v2 v3) s k ||| (bif s_find (S w) (s_gv v0 v1 v2 v3) s k then s_bit k else 0) = _ from by rw [h49]; rfl)
            refine X_loc (L' := [some (.ref 275), some (.int x), none, none, none, none, some (.long (s_rws (S w) (s_gv v0 v1 v2 v3) s (k + 1))), none, some (.int (nI (k + 1)))]) ⟨rfl, rfl, congrArg Value.long e, congrArg Value.int (m_inc rfl).symm, trivial⟩ ?_
            exact ih (k + 1) (by omega)
          · have h49 : (s_find (S w) (s_gv v0 v1 v2 v3) s k) = true := b2_1 c49
            refine X_push (v := .long 1) rfl (by decide +kernel) ?_
            refine X_ld rfl rfl rfl rfl ?_
            refine X_bin rfl rfl ?_
            refine X_goto rfl ?_
            refine X_bin rfl rfl ?_
            refine X_stl rfl rfl rfl ?_
            refine X_iinc rfl rfl rfl ?_
            refine X_goto rfl ?_
            have e : s_rws (S w) (s_gv v0 v1 v2 v3) s (k + 1) = s_rws (S w) (s_gv v0 v1 v2 v3) s k ||| s_bit k := (show s_rws (S w) (s_gv v0 v1 v2 v3) s k ||| (bif s_find (S w) (s_gv v0 v1 v2 v3) s k then s_bit k else 0) = _ from by rw [h49]; rfl)
            refine X_loc (L' := [some (.ref 275), some (.int x), none, none, none, none, some (.long (s_rws (S w) (s_gv v0 v1 v2 v3) s (k + 1))), none, some (.int (nI (k + 1)))]) ⟨rfl, rfl, congrArg Value.long e, congrArg Value.int (m_inc rfl).symm, trivial⟩ ?_
            exact ih (k + 1) (by omega)
      refine X_push (v := .long 0) rfl (by decide +kernel) ?_
      refine X_stl rfl rfl rfl ?_
      refine X_push (v := .int 0) rfl (by decide +kernel) ?_
      refine X_st rfl rfl rfl ?_
      refine X_heap (N' := mset B (upd I 0 0) T S rd tx (s_gv v0 v1 v2 v3) (fun i => b2 (s_pls (S w) (s_gv v0 v1 v2 v3) s P 0 i))) rfl ?_
      refine X_loc (L' := [some (.ref 275), some (.int x), none, none, none, none, some (.long (s_rws (S w) (s_gv v0 v1 v2 v3) s 0)), none, some (.int (nI 0))]) ⟨rfl, rfl, rfl, rfl, trivial⟩ ?_
      refine loop ?_ _ 0 (Nat.zero_add _)
      refine X_ld rfl rfl rfl rfl ?_
      exact X_lret rfl rfl (a_retGL (by unfold a_rows a_ifv; rw [if_pos h2, es, if_pos h16])) (Nat.le_of_ble_eq_true rfl) (Nat.le_of_ble_eq_true rfl)
    · refine X_mcall l_X11_X11_takesValues (c_takesValuesF hG (d + 1) w (updI_I3 hw) hw9 s (by omega) hs2 h16 updI_eq) rfl rfl rfl rfl (Nat.le_of_ble_eq_true rfl) (Nat.le_of_ble_eq_true rfl) (Nat.le_refl _) (Nat.le_of_ble_eq_true rfl) (Nat.le_of_ble_eq_true rfl) ?_
      refine X_heap (N' := mset B (upd I 0 2) T S rd tx gv (fun i => b2 (P i))) (by rw [upd_upd]) ?_
      refine X_if_ne rfl (fun c19 => absurd (by decide) c19) (fun c19 => ?_)
      refine X_push (v := .long 0) rfl (by decide +kernel) ?_
      exact X_lret rfl rfl (a_retGL (by unfold a_rows a_ifv; rw [if_pos h2, es, if_neg h16])) (Nat.le_of_ble_eq_true rfl) (Nat.le_of_ble_eq_true rfl)
  · refine X_mcall l_X11_X11_noStatement (c_noStatementF hG (d + 3) w hw hw9 h2) rfl rfl rfl rfl (Nat.le_of_ble_eq_true rfl) (Nat.le_of_ble_eq_true rfl) (Nat.le_refl _) (Nat.le_of_ble_eq_true rfl) (Nat.le_of_ble_eq_true rfl) ?_
    refine X_if_ne rfl (fun c5 => ?_) (fun c5 => absurd c5 (by decide))
    refine X_push (v := .long 0) rfl (by decide +kernel) ?_
    exact X_lret rfl rfl (a_retGL (by unfold a_rows a_ifv; rw [if_neg h2])) (Nat.le_of_ble_eq_true rfl) (Nat.le_of_ble_eq_true rfl)
