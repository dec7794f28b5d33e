/-! ===== the reference: insert, delete, setIndex, analyze, undo, checksum ===== -/
abbrev s_icell (c : Nat → Int32) (j : Nat) (v : Int32) : Prop := (j < s_cm c ∧ (0 : Int32) ≤ v ∧ v ≤ s_most (s_col c j 8)) ∨ (¬ j < s_cm c ∧ v = 0)
theorem c_isCell {G : XE} (hG : x_Kn G) {B : XH} {I : Nat → Int32} {T : Int64} {S : Nat → Nat → Int32} {rd tx gv pl : Nat → Int32} (d : Nat) (w : Nat) (hw : I 3 = nI w) (hw9 : w < 9) (hwf : s_wf (S w)) (j : Nat) (hj : j < 5) {x v : Int32} (hx : x = nI j) : x_M G mX11_isCell (d + 2) 0 0 [.ref 275, .int x, .int v] (mset B I T S rd tx gv pl) (x_Ret (mset B I T S rd tx gv pl) (.int (bI (s_icell (S w) j v)))) x_noX := by
  refine X_M hG okX11_isCell rfl (L := [some (.ref 275), some (.int x), some (.int v)]) rfl (Nat.le_of_ble_eq_true rfl) (fun ad0 nb0 => ?_)
  have hcm5 := hwf.cmE.2
  have hlm40 := hwf.lmE.2
  have hsm6 := hwf.smE.2
  refine X_ld rfl rfl rfl rfl ?_
  refine X_ld rfl rfl rfl rfl ?_
  refine X_push (v := .int 0) rfl (by decide +kernel) ?_
  refine X_mcall l_X11_X11_get (c_get hG (d + 1) w hw hw9 0 (by omega) (show (0 : Int32) = nI 0 from rfl)) rfl rfl rfl rfl (Nat.le_of_ble_eq_true rfl) (Nat.le_of_ble_eq_true rfl) (Nat.le_refl _) (Nat.le_of_ble_eq_true rfl) (Nat.le_of_ble_eq_true rfl) ?_
  refine X_icmp_ge rfl (fun c6 => ?_) (fun c6 => ?_)
  · have n6 := (n_le hwf.cmE.1 hx (by omega) (by omega)).mp c6
    refine X_ld rfl rfl rfl rfl ?_
    refine X_if_ne rfl (fun c30 => ?_) (fun c30 => ?_)
    · refine X_push (v := .int 0) rfl (by decide +kernel) ?_
      exact X_zret rfl rfl rfl ⟨rfl, by rw [bI_f (fun q => q.elim (fun q => absurd q.1 (Nat.not_lt.mpr n6)) (fun q => c30 q.2))]⟩ (Nat.le_of_ble_eq_true rfl) (Nat.le_of_ble_eq_true rfl)
    · refine X_push (v := .int 1) rfl (by decide +kernel) ?_
      refine X_goto rfl ?_
      exact X_zret rfl rfl rfl ⟨rfl, by rw [bI_t (Or.inr ⟨Nat.not_lt.mpr n6, c30⟩)]⟩ (Nat.le_of_ble_eq_true rfl) (Nat.le_of_ble_eq_true rfl)
  · have n6 := mt (n_le hwf.cmE.1 hx (by omega) (by omega)).mpr c6
    refine X_ld rfl rfl rfl rfl ?_
    refine X_un rfl rfl ?_
    refine X_push (v := .long 0) rfl (by decide +kernel) ?_
    refine X_ld rfl rfl rfl rfl ?_
    refine X_ld rfl rfl rfl rfl ?_
    refine X_push (v := .int 8) rfl (by decide +kernel) ?_
    refine X_mcall l_X11_X11_ofColumn (c_ofColumn hG d w hw hw9 j 8 (by omega) hx (show (8 : Int32) = nI 8 from rfl)) rfl rfl rfl rfl (Nat.le_of_ble_eq_true rfl) (Nat.le_of_ble_eq_true rfl) (Nat.le_refl _) (Nat.le_of_ble_eq_true rfl) (Nat.le_of_ble_eq_true rfl) ?_
    refine X_scall l_X11_X11_mostOf (c_mostOf hG (d + 1) ) rfl rfl rfl (Nat.le_of_ble_eq_true rfl) (Nat.le_of_ble_eq_true rfl) (Nat.le_refl _) (Nat.le_of_ble_eq_true rfl) (Nat.le_of_ble_eq_true rfl) ?_
    refine X_un rfl rfl ?_
    refine X_scall l_X11_X11_isIn (c_isIn hG (d + 1) (x := v) (y := 0) (z := s_most (S w (10 + 13 * j + 8))) rfl (by decide) rfl) rfl rfl rfl (Nat.le_of_ble_eq_true rfl) (Nat.le_of_ble_eq_true rfl) (Nat.le_refl _) (Nat.le_of_ble_eq_true rfl) (Nat.le_of_ble_eq_true rfl) ?_
    refine X_goto rfl ?_
    exact X_zret rfl rfl (bI_nar _) ⟨rfl, congrArg (fun q => some (Value.int q)) (m_bIeq ⟨fun q => Or.inl ⟨Nat.not_le.mp n6, q⟩, fun q => q.elim (fun q => q.2) (fun q => absurd (Nat.not_le.mp n6) q.1)⟩)⟩ (Nat.le_of_ble_eq_true rfl) (Nat.le_of_ble_eq_true rfl)
def s_ins (c : Nat → Int32) (a b e f g : Int32) : Nat → Int32 :=
  upd (upd (upd (upd (upd (upd c (75 + 5 * s_lm c + 0) a) (75 + 5 * s_lm c + 0 + 1) b) (75 + 5 * s_lm c + 0 + 2) e) (75 + 5 * s_lm c + 0 + 3) f) (75 + 5 * s_lm c + 0 + 4) g) 1 (c 1 + 1)
abbrev s_icells (c : Nat → Int32) (a b e f g : Int32) : Prop := s_icell c 0 a ∧ s_icell c 1 b ∧ s_icell c 2 e ∧ s_icell c 3 f ∧ s_icell c 4 g
def a_insert (c : Nat → Int32) (a b e f g : Int32) : Int32 × Int32 × Option (Nat → Int32) :=
  if s_icells c a b e f g then (if (0 : Int32) < c 0 ∧ c 1 < 40 then (0, c 1 + 1, some (s_ins c a b e f g)) else (2, 0, none)) else (1, 0, none)
theorem c_insert {G : XE} (hG : x_Kn G) {B : XH} {I : Nat → Int32} {T : Int64} {S : Nat → Nat → Int32} {rd tx gv : Nat → Int32} {P : Nat → Bool} (d : Nat) (w : Nat) (hw : I 3 = nI w) (hw9 : w < 9) (u : Nat) (hu : I 4 = nI u) (hu8 : u ≤ 8) (hwf : s_wf (S w)) {a b e f g : Int32} : x_M G mX11_insert (d + 3) 0 0 [.ref 275, .int a, .int b, .int e, .int f, .int g] (mset B I T S rd tx gv (fun i => b2 (P i))) (x_RetM B I T S rd tx w u (a_insert (S w) a b e f g)) x_noX := by
  refine X_M hG okX11_insert rfl (L := [some (.ref 275), some (.int a), some (.int b), some (.int e), some (.int f), some (.int g), none]) rfl (Nat.le_of_ble_eq_true rfl) (fun ad0 nb0 => ?_)
  have hcm5 := hwf.cmE.2
  have hlm40 := hwf.lmE.2
  have hsm6 := hwf.smE.2
  refine X_ld rfl rfl rfl rfl ?_
  refine X_push (v := .int 0) rfl (by decide +kernel) ?_
  refine X_mput f_X11_37 rfl rfl ?_
  refine X_ld rfl rfl rfl rfl ?_
  refine X_ld rfl rfl rfl rfl ?_
  refine X_push (v := .int 0) rfl (by decide +kernel) ?_
  refine X_ld rfl rfl rfl rfl ?_
  refine X_mcall l_X11_X11_isCell (c_isCell hG d w (updI_I3 hw) hw9 hwf 0 (by omega) (show (0 : Int32) = nI 0 from rfl)) rfl rfl rfl rfl (Nat.le_of_ble_eq_true rfl) (Nat.le_of_ble_eq_true rfl) (Nat.le_refl _) (Nat.le_of_ble_eq_true rfl) (Nat.le_of_ble_eq_true rfl) ?_
  refine X_if_eq rfl (fun c12 => ?_) (fun c12 => ?_)
  · have h12 : ¬ (s_icell (S w) 0 a) := fun q => bI_ne.mpr q c12
    refine X_push (v := .int 0) rfl (by decide +kernel) ?_
    refine X_push (v := .int 1) rfl (by decide +kernel) ?_
    refine X_mcall l_X11_X11_right (c_rightF hG (d + 2) (fun q : False => q) updI_eq (by decide)) rfl rfl rfl rfl (Nat.le_of_ble_eq_true rfl) (Nat.le_of_ble_eq_true rfl) (Nat.le_refl _) (Nat.le_of_ble_eq_true rfl) (Nat.le_of_ble_eq_true rfl) ?_
    refine X_heap (N' := mset B (upd I 0 1) T S rd tx gv (fun i => b2 (P i))) (by rw [upd_upd]) ?_
    refine X_if_eq rfl (fun c62 => ?_) (fun c62 => absurd (by decide) c62)
    refine X_push (v := .int 0) rfl (by decide +kernel) ?_
    exact X_iret rfl rfl (a_retM0 (by unfold a_insert; rw [if_neg (fun q => h12 q.1)])) (Nat.le_of_ble_eq_true rfl) (Nat.le_of_ble_eq_true rfl)
  · have h12 : s_icell (S w) 0 a := bI_ne.mp c12
    refine X_ld rfl rfl rfl rfl ?_
    refine X_push (v := .int 1) rfl (by decide +kernel) ?_
    refine X_ld rfl rfl rfl rfl ?_
    refine X_mcall l_X11_X11_isCell (c_isCell hG d w (updI_I3 hw) hw9 hwf 1 (by omega) (show (1 : Int32) = nI 1 from rfl)) rfl rfl rfl rfl (Nat.le_of_ble_eq_true rfl) (Nat.le_of_ble_eq_true rfl) (Nat.le_refl _) (Nat.le_of_ble_eq_true rfl) (Nat.le_of_ble_eq_true rfl) ?_
    refine X_if_eq rfl (fun c21 => ?_) (fun c21 => ?_)
    · have h21 : ¬ (s_icell (S w) 1 b) := fun q => bI_ne.mpr q c21
      refine X_push (v := .int 0) rfl (by decide +kernel) ?_
      refine X_push (v := .int 1) rfl (by decide +kernel) ?_
      refine X_mcall l_X11_X11_right (c_rightF hG (d + 2) (fun q : False => q) updI_eq (by decide)) rfl rfl rfl rfl (Nat.le_of_ble_eq_true rfl) (Nat.le_of_ble_eq_true rfl) (Nat.le_refl _) (Nat.le_of_ble_eq_true rfl) (Nat.le_of_ble_eq_true rfl) ?_
      refine X_heap (N' := mset B (upd I 0 1) T S rd tx gv (fun i => b2 (P i))) (by rw [upd_upd]) ?_
      refine X_if_eq rfl (fun c62 => ?_) (fun c62 => absurd (by decide) c62)
      refine X_push (v := .int 0) rfl (by decide +kernel) ?_
      exact X_iret rfl rfl (a_retM0 (by unfold a_insert; rw [if_neg (fun q => h21 q.2.1)])) (Nat.le_of_ble_eq_true rfl) (Nat.le_of_ble_eq_true rfl)
    · have h21 : s_icell (S w) 1 b := bI_ne.mp c21
      refine X_ld rfl rfl rfl rfl ?_
      refine X_push (v := .int 2) rfl (by decide +kernel) ?_
      refine X_ld rfl rfl rfl rfl ?_
      refine X_mcall l_X11_X11_isCell (c_isCell hG d w (updI_I3 hw) hw9 hwf 2 (by omega) (show (2 : Int32) = nI 2 from rfl)) rfl rfl rfl rfl (Nat.le_of_ble_eq_true rfl) (Nat.le_of_ble_eq_true rfl) (Nat.le_refl _) (Nat.le_of_ble_eq_true rfl) (Nat.le_of_ble_eq_true rfl) ?_
      refine X_if_eq rfl (fun c30 => ?_) (fun c30 => ?_)
      · have h30 : ¬ (s_icell (S w) 2 e) := fun q => bI_ne.mpr q c30
        refine X_push (v := .int 0) rfl (by decide +kernel) ?_
        refine X_push (v := .int 1) rfl (by decide +kernel) ?_
        refine X_mcall l_X11_X11_right (c_rightF hG (d + 2) (fun q : False => q) updI_eq (by decide)) rfl rfl rfl rfl (Nat.le_of_ble_eq_true rfl) (Nat.le_of_ble_eq_true rfl) (Nat.le_refl _) (Nat.le_of_ble_eq_true rfl) (Nat.le_of_ble_eq_true rfl) ?_
        refine X_heap (N' := mset B (upd I 0 1) T S rd tx gv (fun i => b2 (P i))) (by rw [upd_upd]) ?_
        refine X_if_eq rfl (fun c62 => ?_) (fun c62 => absurd (by decide) c62)
        refine X_push (v := .int 0) rfl (by decide +kernel) ?_
        exact X_iret rfl rfl (a_retM0 (by unfold a_insert; rw [if_neg (fun q => h30 q.2.2.1)])) (Nat.le_of_ble_eq_true rfl) (Nat.le_of_ble_eq_true rfl)
      · have h30 : s_icell (S w) 2 e := bI_ne.mp c30
        refine X_ld rfl rfl rfl rfl ?_
        refine X_push (v := .int 3) rfl (by decide +kernel) ?_
        refine X_ld rfl rfl rfl rfl ?_
        refine X_mcall l_X11_X11_isCell (c_isCell hG d w (updI_I3 hw) hw9 hwf 3 (by omega) (show (3 : Int32) = nI 3 from rfl)) rfl rfl rfl rfl (Nat.le_of_ble_eq_true rfl) (Nat.le_of_ble_eq_true rfl) (Nat.le_refl _) (Nat.le_of_ble_eq_true rfl) (Nat.le_of_ble_eq_true rfl) ?_
        refine X_if_eq rfl (fun c40 => ?_) (fun c40 => ?_)
        · have h40 : ¬ (s_icell (S w) 3 f) := fun q => bI_ne.mpr q c40
          refine X_push (v := .int 0) rfl (by decide +kernel) ?_
          refine X_push (v := .int 1) rfl (by decide +kernel) ?_
          refine X_mcall l_X11_X11_right (c_rightF hG (d + 2) (fun q : False => q) updI_eq (by decide)) rfl rfl rfl rfl (Nat.le_of_ble_eq_true rfl) (Nat.le_of_ble_eq_true rfl) (Nat.le_refl _) (Nat.le_of_ble_eq_true rfl) (Nat.le_of_ble_eq_true rfl) ?_
          refine X_heap (N' := mset B (upd I 0 1) T S rd tx gv (fun i => b2 (P i))) (by rw [upd_upd]) ?_
          refine X_if_eq rfl (fun c62 => ?_) (fun c62 => absurd (by decide) c62)
          refine X_push (v := .int 0) rfl (by decide +kernel) ?_
          exact X_iret rfl rfl (a_retM0 (by unfold a_insert; rw [if_neg (fun q => h40 q.2.2.2.1)])) (Nat.le_of_ble_eq_true rfl) (Nat.le_of_ble_eq_true rfl)
        · have h40 : s_icell (S w) 3 f := bI_ne.mp c40
          refine X_ld rfl rfl rfl rfl ?_
          refine X_push (v := .int 4) rfl (by decide +kernel) ?_
          refine X_ld rfl rfl rfl rfl ?_
          refine X_mcall l_X11_X11_isCell (c_isCell hG d w (updI_I3 hw) hw9 hwf 4 (by omega) (show (4 : Int32) = nI 4 from rfl)) rfl rfl rfl rfl (Nat.le_of_ble_eq_true rfl) (Nat.le_of_ble_eq_true rfl) (Nat.le_refl _) (Nat.le_of_ble_eq_true rfl) (Nat.le_of_ble_eq_true rfl) ?_
          refine X_if_eq rfl (fun c50 => ?_) (fun c50 => ?_)
          · have h50 : ¬ (s_icell (S w) 4 g) := fun q => bI_ne.mpr q c50
            refine X_push (v := .int 0) rfl (by decide +kernel) ?_
            refine X_push (v := .int 1) rfl (by decide +kernel) ?_
            refine X_mcall l_X11_X11_right (c_rightF hG (d + 2) (fun q : False => q) updI_eq (by decide)) rfl rfl rfl rfl (Nat.le_of_ble_eq_true rfl) (Nat.le_of_ble_eq_true rfl) (Nat.le_refl _) (Nat.le_of_ble_eq_true rfl) (Nat.le_of_ble_eq_true rfl) ?_
            refine X_heap (N' := mset B (upd I 0 1) T S rd tx gv (fun i => b2 (P i))) (by rw [upd_upd]) ?_
            refine X_if_eq rfl (fun c62 => ?_) (fun c62 => absurd (by decide) c62)
            refine X_push (v := .int 0) rfl (by decide +kernel) ?_
            exact X_iret rfl rfl (a_retM0 (by unfold a_insert; rw [if_neg (fun q => h50 q.2.2.2.2)])) (Nat.le_of_ble_eq_true rfl) (Nat.le_of_ble_eq_true rfl)
          · have h50 : s_icell (S w) 4 g := bI_ne.mp c50
            refine X_push (v := .int 1) rfl (by decide +kernel) ?_
            refine X_goto rfl ?_
            refine X_push (v := .int 1) rfl (by decide +kernel) ?_
            refine X_mcall l_X11_X11_right (c_rightT hG (d + 2) trivial updI_eq) rfl rfl rfl rfl (Nat.le_of_ble_eq_true rfl) (Nat.le_of_ble_eq_true rfl) (Nat.le_refl _) (Nat.le_of_ble_eq_true rfl) (Nat.le_of_ble_eq_true rfl) ?_
            refine X_if_eq rfl (fun c62 => absurd c62 (by decide)) (fun c62 => ?_)
            refine X_ld rfl rfl rfl rfl ?_
            refine X_ld rfl rfl rfl rfl ?_
            refine X_push (v := .int 0) rfl (by decide +kernel) ?_
            refine X_mcall l_X11_X11_get (c_get hG (d + 2) w (updI_I3 hw) hw9 0 (by omega) (show (0 : Int32) = nI 0 from rfl)) rfl rfl rfl rfl (Nat.le_of_ble_eq_true rfl) (Nat.le_of_ble_eq_true rfl) (Nat.le_refl _) (Nat.le_of_ble_eq_true rfl) (Nat.le_of_ble_eq_true rfl) ?_
            refine X_if_le rfl (fun c71 => ?_) (fun c71 => ?_)
            · refine X_push (v := .int 0) rfl (by decide +kernel) ?_
              refine X_push (v := .int 2) rfl (by decide +kernel) ?_
              refine X_mcall l_X11_X11_right (c_rightF hG (d + 2) (fun q : False => q) updI_eq (by decide)) rfl rfl rfl rfl (Nat.le_of_ble_eq_true rfl) (Nat.le_of_ble_eq_true rfl) (Nat.le_refl _) (Nat.le_of_ble_eq_true rfl) (Nat.le_of_ble_eq_true rfl) ?_
              refine X_heap (N' := mset B (upd I 0 2) T S rd tx gv (fun i => b2 (P i))) (by rw [upd_upd]) ?_
              refine X_if_ne rfl (fun c93 => absurd (by decide) c93) (fun c93 => ?_)
              refine X_push (v := .int 0) rfl (by decide +kernel) ?_
              exact X_iret rfl rfl (a_retM0 (by unfold a_insert; rw [if_pos ⟨h12, h21, h30, h40, h50⟩, if_neg (fun q => absurd q.1 (Int32.not_lt.mpr c71))])) (Nat.le_of_ble_eq_true rfl) (Nat.le_of_ble_eq_true rfl)
            · refine X_ld rfl rfl rfl rfl ?_
              refine X_push (v := .int 1) rfl (by decide +kernel) ?_
              refine X_mcall l_X11_X11_get (c_get hG (d + 2) w (updI_I3 hw) hw9 1 (by omega) (show (1 : Int32) = nI 1 from rfl)) rfl rfl rfl rfl (Nat.le_of_ble_eq_true rfl) (Nat.le_of_ble_eq_true rfl) (Nat.le_refl _) (Nat.le_of_ble_eq_true rfl) (Nat.le_of_ble_eq_true rfl) ?_
              refine X_push (v := .int 40) rfl (by decide +kernel) ?_
              refine X_icmp_ge rfl (fun c81 => ?_) (fun c81 => ?_)
              · refine X_push (v := .int 0) rfl (by decide +kernel) ?_
                refine X_push (v := .int 2) rfl (by decide +kernel) ?_
                refine X_mcall l_X11_X11_right (c_rightF hG (d + 2) (fun q : False => q) updI_eq (by decide)) rfl rfl rfl rfl (Nat.le_of_ble_eq_true rfl) (Nat.le_of_ble_eq_true rfl) (Nat.le_refl _) (Nat.le_of_ble_eq_true rfl) (Nat.le_of_ble_eq_true rfl) ?_
                refine X_heap (N' := mset B (upd I 0 2) T S rd tx gv (fun i => b2 (P i))) (by rw [upd_upd]) ?_
                refine X_if_ne rfl (fun c93 => absurd (by decide) c93) (fun c93 => ?_)
                refine X_push (v := .int 0) rfl (by decide +kernel) ?_
                exact X_iret rfl rfl (a_retM0 (by unfold a_insert; rw [if_pos ⟨h12, h21, h30, h40, h50⟩, if_neg (fun q => absurd q.2 (Int32.not_lt.mpr c81))])) (Nat.le_of_ble_eq_true rfl) (Nat.le_of_ble_eq_true rfl)
              · refine X_push (v := .int 1) rfl (by decide +kernel) ?_
                refine X_goto rfl ?_
                refine X_push (v := .int 2) rfl (by decide +kernel) ?_
                refine X_mcall l_X11_X11_right (c_rightT hG (d + 2) trivial updI_eq) rfl rfl rfl rfl (Nat.le_of_ble_eq_true rfl) (Nat.le_of_ble_eq_true rfl) (Nat.le_refl _) (Nat.le_of_ble_eq_true rfl) (Nat.le_of_ble_eq_true rfl) ?_
                refine X_if_ne rfl (fun c93 => ?_) (fun c93 => absurd c93 (by decide))
                refine X_ld rfl rfl rfl rfl ?_
                refine X_mcallv l_X11_X11_change (c_change hG (d + 2) w (updI_I3 hw) hw9 u ((updI_ne (by decide)).trans hu) hu8) rfl rfl rfl rfl (Nat.le_of_ble_eq_true rfl) (Nat.le_of_ble_eq_true rfl) (Nat.le_refl _) (Nat.le_of_ble_eq_true rfl) (Nat.le_of_ble_eq_true rfl) ?_
                refine X_rowN (fun S1 e1 f1 => ?_)
                have hl40 : s_lm (S w) < 40 := by have h := Int32.not_le.mp c81; rw [hwf.lmE.1] at h; exact (n_lt (b := 40) rfl rfl (by omega) (by omega)).mp h
                refine X_ld rfl rfl rfl rfl ?_
                refine X_push (v := .int 1) rfl (by decide +kernel) ?_
                refine X_mcall l_X11_X11_get (c_get hG (d + 2) (s_nx w) s_ch3 s_nx_lt 1 (by omega) (show (1 : Int32) = nI 1 from rfl)) rfl rfl rfl rfl (Nat.le_of_ble_eq_true rfl) (Nat.le_of_ble_eq_true rfl) (Nat.le_refl _) (Nat.le_of_ble_eq_true rfl) (Nat.le_of_ble_eq_true rfl) ?_
                refine X_push (v := .int 0) rfl (by decide +kernel) ?_
                refine X_scall l_X11_X11_valueAt (c_valueAt hG (d + 2) ) rfl rfl rfl (Nat.le_of_ble_eq_true rfl) (Nat.le_of_ble_eq_true rfl) (Nat.le_refl _) (Nat.le_of_ble_eq_true rfl) (Nat.le_of_ble_eq_true rfl) ?_
                refine X_st rfl rfl rfl ?_
                refine X_ld rfl rfl rfl rfl ?_
                refine X_ld rfl rfl rfl rfl ?_
                refine X_ld rfl rfl rfl rfl ?_
                refine X_mcallv l_X11_X11_put (c_put hG (d + 2) (s_nx w) s_ch3 s_nx_lt (75 + 5 * (s_lm (S w)) + 0) (by omega) (m_valueAt ((congrFun e1 1).trans hwf.lmE.1) (show (0 : Int32) = nI 0 from rfl))) rfl rfl rfl rfl (Nat.le_of_ble_eq_true rfl) (Nat.le_of_ble_eq_true rfl) (Nat.le_refl _) (Nat.le_of_ble_eq_true rfl) (Nat.le_of_ble_eq_true rfl) ?_
                refine X_row f1 (upd (S w) (75 + 5 * s_lm (S w) + 0) a) rfl (fun S2 e2 f2 => ?_)
                refine X_ld rfl rfl rfl rfl ?_
                refine X_ld rfl rfl rfl rfl ?_
                refine X_push (v := .int 1) rfl (by decide +kernel) ?_
                refine X_bin rfl rfl ?_
                refine X_ld rfl rfl rfl rfl ?_
                refine X_mcallv l_X11_X11_put (c_put hG (d + 2) (s_nx w) s_ch3 s_nx_lt ((75 + 5 * (s_lm (S w)) + 0) + 1) (by omega) (m_add (m_valueAt ((congrFun e1 1).trans hwf.lmE.1) (show (0 : Int32) = nI 0 from rfl)) (show (1 : Int32) = nI 1 from rfl))) rfl rfl rfl rfl (Nat.le_of_ble_eq_true rfl) (Nat.le_of_ble_eq_true rfl) (Nat.le_refl _) (Nat.le_of_ble_eq_true rfl) (Nat.le_of_ble_eq_true rfl) ?_
                refine X_row f2 (upd (upd (S w) (75 + 5 * s_lm (S w) + 0) a) (75 + 5 * s_lm (S w) + 0 + 1) b) rfl (fun S3 e3 f3 => ?_)
                refine X_ld rfl rfl rfl rfl ?_
                refine X_ld rfl rfl rfl rfl ?_
                refine X_push (v := .int 2) rfl (by decide +kernel) ?_
                refine X_bin rfl rfl ?_
                refine X_ld rfl rfl rfl rfl ?_
                refine X_mcallv l_X11_X11_put (c_put hG (d + 2) (s_nx w) s_ch3 s_nx_lt ((75 + 5 * (s_lm (S w)) + 0) + 2) (by omega) (m_add (m_valueAt ((congrFun e1 1).trans hwf.lmE.1) (show (0 : Int32) = nI 0 from rfl)) (show (2 : Int32) = nI 2 from rfl))) rfl rfl rfl rfl (Nat.le_of_ble_eq_true rfl) (Nat.le_of_ble_eq_true rfl) (Nat.le_refl _) (Nat.le_of_ble_eq_true rfl) (Nat.le_of_ble_eq_true rfl) ?_
                refine X_row f3 (upd (upd (upd (S w) (75 + 5 * s_lm (S w) + 0) a) (75 + 5 * s_lm (S w) + 0 + 1) b) (75 + 5 * s_lm (S w) + 0 + 2) e) rfl (fun S4 e4 f4 => ?_)
                refine X_ld rfl rfl rfl rfl ?_
                refine X_ld rfl rfl rfl rfl ?_
                refine X_push (v := .int 3) rfl (by decide +kernel) ?_
                refine X_bin rfl rfl ?_
                refine X_ld rfl rfl rfl rfl ?_
                refine X_mcallv l_X11_X11_put (c_put hG (d + 2) (s_nx w) s_ch3 s_nx_lt ((75 + 5 * (s_lm (S w)) + 0) + 3) (by omega) (m_add (m_valueAt ((congrFun e1 1).trans hwf.lmE.1) (show (0 : Int32) = nI 0 from rfl)) (show (3 : Int32) = nI 3 from rfl))) rfl rfl rfl rfl (Nat.le_of_ble_eq_true rfl) (Nat.le_of_ble_eq_true rfl) (Nat.le_refl _) (Nat.le_of_ble_eq_true rfl) (Nat.le_of_ble_eq_true rfl) ?_
                refine X_row f4 (upd (upd (upd (upd (S w) (75 + 5 * s_lm (S w) + 0) a) (75 + 5 * s_lm (S w) + 0 + 1) b) (75 + 5 * s_lm (S w) + 0 + 2) e) (75 + 5 * s_lm (S w) + 0 + 3) f) rfl (fun S5 e5 f5 => ?_)
                refine X_ld rfl rfl rfl rfl ?_
                refine X_ld rfl rfl rfl rfl ?_
                refine X_push (v := .int 4) rfl (by decide +kernel) ?_
                refine X_bin rfl rfl ?_
                refine X_ld rfl rfl rfl rfl ?_
                refine X_mcallv l_X11_X11_put (c_put hG (d + 2) (s_nx w) s_ch3 s_nx_lt ((75 + 5 * (s_lm (S w)) + 0) + 4) (by omega) (m_add (m_valueAt ((congrFun e1 1).trans hwf.lmE.1) (show (0 : Int32) = nI 0 from rfl)) (show (4 : Int32) = nI 4 from rfl))) rfl rfl rfl rfl (Nat.le_of_ble_eq_true rfl) (Nat.le_of_ble_eq_true rfl) (Nat.le_refl _) (Nat.le_of_ble_eq_true rfl) (Nat.le_of_ble_eq_true rfl) ?_
                refine X_row f5 (upd (upd (upd (upd (upd (S w) (75 + 5 * s_lm (S w) + 0) a) (75 + 5 * s_lm (S w) + 0 + 1) b) (75 + 5 * s_lm (S w) + 0 + 2) e) (75 + 5 * s_lm (S w) + 0 + 3) f) (75 + 5 * s_lm (S w) + 0 + 4) g) rfl (fun S6 e6 f6 => ?_)
                refine X_ld rfl rfl rfl rfl ?_
                refine X_push (v := .int 1) rfl (by decide +kernel) ?_
                refine X_push (v := .int 1) rfl (by decide +kernel) ?_
                refine X_mcallv l_X11_X11_add (c_add hG (d + 2) (s_nx w) s_ch3 s_nx_lt 1 (by omega) (show (1 : Int32) = nI 1 from rfl)) rfl rfl rfl rfl (Nat.le_of_ble_eq_true rfl) (Nat.le_of_ble_eq_true rfl) (Nat.le_refl _) (Nat.le_of_ble_eq_true rfl) (Nat.le_of_ble_eq_true rfl) ?_
                refine X_row f6 (s_ins (S w) a b e f g) (by rw [e6, updI_ne (by omega), updI_ne (by omega), updI_ne (by omega), updI_ne (by omega), updI_ne (by omega)]; rfl) (fun S7 e7 f7 => ?_)
                refine X_ld rfl rfl rfl rfl ?_
                refine X_push (v := .int 1) rfl (by decide +kernel) ?_
                refine X_mcall l_X11_X11_get (c_get hG (d + 2) (s_nx w) s_ch3 s_nx_lt 1 (by omega) (show (1 : Int32) = nI 1 from rfl)) rfl rfl rfl rfl (Nat.le_of_ble_eq_true rfl) (Nat.le_of_ble_eq_true rfl) (Nat.le_refl _) (Nat.le_of_ble_eq_true rfl) (Nat.le_of_ble_eq_true rfl) ?_
                refine X_stk (congrArg (fun q => Value.int q :: _) (show S7 (s_nx w) 1 = S w 1 + 1 by rw [e7]; exact updI_eq)) ?_
                exact X_iret rfl rfl (a_retM1 (by unfold a_insert; rw [if_pos ⟨h12, h21, h30, h40, h50⟩, if_pos ⟨Int32.not_le.mp c71, Int32.not_le.mp c81⟩]) f7) (Nat.le_of_ble_eq_true rfl) (Nat.le_of_ble_eq_true rfl)
/-- n cells from a on are those five behind -/
def s_shift (c : Nat → Int32) (a n : Nat) : Nat → Int32 := fun j => if a ≤ j ∧ j < a + n then c (j + 5) else c j
theorem s_shift_0 {c : Nat → Int32} {a : Nat} : s_shift c a 0 = c := by
  funext j
  unfold s_shift
  rw [if_neg (by omega)]
theorem s_shift_1 {c : Nat → Int32} {a n : Nat} : upd (s_shift c a n) (a + n) (s_shift c a n (a + n + 5)) = s_shift c a (n + 1) := by
  funext j
  by_cases h : j = a + n
  · rw [h, updI_eq]
    unfold s_shift
    rw [if_neg (by omega), if_pos (by omega)]
  · rw [updI_ne h]
    unfold s_shift
    by_cases h2 : a ≤ j ∧ j < a + n
    · rw [if_pos h2, if_pos (by omega)]
    · rw [if_neg h2, if_neg (by omega)]
/-- the row without line l -/
def s_del (c : Nat → Int32) (l : Nat) : Nat → Int32 := s_shift (upd c 1 (nI (s_lm c - 1))) (75 + 5 * l + 0) (5 * (s_lm c - 1 - l))
def a_delete (c : Nat → Int32) (x : Int32) : Int32 × Int32 × Option (Nat → Int32) :=
  if (0 : Int32) ≤ x ∧ x ≤ c 1 - 1 then (0, nI (s_lm c - 1), some (s_del c (n_ x))) else (1, 0, none)
theorem c_delete {G : XE} (hG : x_Kn G) {B : XH} {I : Nat → Int32} {T : Int64} {S : Nat → Nat → Int32} {rd tx gv : Nat → Int32} {P : Nat → Bool} (d : Nat) (w : Nat) (hw : I 3 = nI w) (hw9 : w < 9) (u : Nat) (hu : I 4 = nI u) (hu8 : u ≤ 8) (hwf : s_wf (S w)) {x : Int32} : x_M G mX11_delete (d + 2) 0 0 [.ref 275, .int x] (mset B I T S rd tx gv (fun i => b2 (P i))) (x_RetM B I T S rd tx w u (a_delete (S w) x)) x_noX := by
  refine X_M hG okX11_delete rfl (L := [some (.ref 275), some (.int x), none]) rfl (Nat.le_of_ble_eq_true rfl) (fun ad0 nb0 => ?_)
  have hcm5 := hwf.cmE.2
  have hlm40 := hwf.lmE.2
  have hsm6 := hwf.smE.2
  refine X_ld rfl rfl rfl rfl ?_
  refine X_push (v := .int 0) rfl (by decide +kernel) ?_
  refine X_mput f_X11_37 rfl rfl ?_
  refine X_ld rfl rfl rfl rfl ?_
  refine X_ld rfl rfl rfl rfl ?_
  refine X_un rfl rfl ?_
  refine X_push (v := .long 0) rfl (by decide +kernel) ?_
  refine X_ld rfl rfl rfl rfl ?_
  refine X_push (v := .int 1) rfl (by decide +kernel) ?_
  refine X_mcall l_X11_X11_get (c_get hG (d + 1) w (updI_I3 hw) hw9 1 (by omega) (show (1 : Int32) = nI 1 from rfl)) rfl rfl rfl rfl (Nat.le_of_ble_eq_true rfl) (Nat.le_of_ble_eq_true rfl) (Nat.le_refl _) (Nat.le_of_ble_eq_true rfl) (Nat.le_of_ble_eq_true rfl) ?_
  refine X_push (v := .int 1) rfl (by decide +kernel) ?_
  refine X_bin rfl rfl ?_
  refine X_un rfl rfl ?_
  refine X_scall l_X11_X11_isIn (c_isIn hG (d + 1) (x := x) (y := 0) (z := (S w 1) - 1) rfl (by decide) rfl) rfl rfl rfl (Nat.le_of_ble_eq_true rfl) (Nat.le_of_ble_eq_true rfl) (Nat.le_refl _) (Nat.le_of_ble_eq_true rfl) (Nat.le_of_ble_eq_true rfl) ?_
  refine X_push (v := .int 1) rfl (by decide +kernel) ?_
  by_cases h21 : (0 : Int32) ≤ x ∧ x ≤ (S w 1) - 1
  · refine X_mcall l_X11_X11_right (c_rightT hG (d + 1) h21 updI_eq) rfl rfl rfl rfl (Nat.le_of_ble_eq_true rfl) (Nat.le_of_ble_eq_true rfl) (Nat.le_refl _) (Nat.le_of_ble_eq_true rfl) (Nat.le_of_ble_eq_true rfl) ?_
    refine X_if_ne rfl (fun c24 => ?_) (fun c24 => absurd c24 (by decide))
    obtain ⟨l, hl1, hl2⟩ := m_rng hwf.lmE.1 (by have := hwf.lmE.2; omega) h21
    have el : n_ x = l := by unfold n_; rw [hl2]; exact nI_clamp (by omega)
    refine X_ld rfl rfl rfl rfl ?_
    refine X_mcallv l_X11_X11_change (c_change hG (d + 1) w (updI_I3 hw) hw9 u ((updI_ne (by decide)).trans hu) hu8) rfl rfl rfl rfl (Nat.le_of_ble_eq_true rfl) (Nat.le_of_ble_eq_true rfl) (Nat.le_refl _) (Nat.le_of_ble_eq_true rfl) (Nat.le_of_ble_eq_true rfl) ?_
    refine X_rowN (fun S1 e1 f1 => ?_)
    refine X_ld rfl rfl rfl rfl ?_
    refine X_push (v := .int 1) rfl (by decide +kernel) ?_
    refine X_push (v := .int (-1)) rfl (by decide +kernel) ?_
    refine X_mcallv l_X11_X11_add (c_add hG (d + 1) (s_nx w) s_ch3 s_nx_lt 1 (by omega) (show (1 : Int32) = nI 1 from rfl)) rfl rfl rfl rfl (Nat.le_of_ble_eq_true rfl) (Nat.le_of_ble_eq_true rfl) (Nat.le_refl _) (Nat.le_of_ble_eq_true rfl) (Nat.le_of_ble_eq_true rfl) ?_
    have hlt : l < s_lm (S w) := hl1
    refine X_row f1 (upd (S w) 1 (nI (s_lm (S w) - 1))) (by rw [e1, hwf.lmE.1, show nI (s_lm (S w)) + -1 = nI (s_lm (S w) - 1) from m_dec (by omega) rfl]) (fun S2 e2 f2 => ?_)
    have e1k0 : ∀ k, updR S (s_nx w) (s_shift (upd (S w) 1 (nI (s_lm (S w) - 1))) (75 + 5 * l + 0) k) (s_nx w) 1 = nI (s_lm (S w) - 1) := fun k => by rw [updR_eq]; unfold s_shift; rw [if_neg (by omega), updI_eq]
    refine X_ld rfl rfl rfl rfl ?_
    refine X_push (v := .int 0) rfl (by decide +kernel) ?_
    refine X_scall l_X11_X11_valueAt (c_valueAt hG (d + 1) ) rfl rfl rfl (Nat.le_of_ble_eq_true rfl) (Nat.le_of_ble_eq_true rfl) (Nat.le_refl _) (Nat.le_of_ble_eq_true rfl) (Nat.le_of_ble_eq_true rfl) ?_
    refine X_st rfl rfl rfl ?_
    have loop : x_W G mX11_delete (x_Z G (d + 2) 0 0 ad0 nb0 (x_RetM B I T S rd tx w u (a_delete (S w) x)) x_noX) (mset B (s_ch (upd I 0 0) w u) T (updR S (s_nx w) (s_shift (upd (S w) 1 (nI (s_lm (S w) - 1))) (75 + 5 * l + 0) (5 * (s_lm (S w) - 1 - l)))) rd tx gv (fun i => b2 (P i))) 0 0 76 [some (.ref 275), some (.int x), some (.int (nI (75 + 5 * l + 0 + (5 * (s_lm (S w) - 1 - l)))))] [] → ∀ (f9 k : Nat), k + f9 = (5 * (s_lm (S w) - 1 - l)) → x_W G mX11_delete (x_Z G (d + 2) 0 0 ad0 nb0 (x_RetM B I T S rd tx w u (a_delete (S w) x)) x_noX) (mset B (s_ch (upd I 0 0) w u) T (updR S (s_nx w) (s_shift (upd (S w) 1 (nI (s_lm (S w) - 1))) (75 + 5 * l + 0) k)) rd tx gv (fun i => b2 (P i))) 0 0 45 [some (.ref 275), some (.int x), some (.int (nI (75 + 5 * l + 0 + k)))] [] := by
      intro K f9
      induction f9 with
      | zero =>
        intro k e0 
        obtain rfl : k = (5 * (s_lm (S w) - 1 - l)) := by omega
        have e1k := e1k0 ((5 * (s_lm (S w) - 1 - l)))
        refine X_ld rfl rfl rfl rfl ?_
        refine X_ld rfl rfl rfl rfl ?_
        refine X_push (v := .int 1) rfl (by decide +kernel) ?_
        refine X_mcall l_X11_X11_get (c_get hG (d + 1) (s_nx w) s_ch3 s_nx_lt 1 (by omega) (show (1 : Int32) = nI 1 from rfl)) rfl rfl rfl rfl (Nat.le_of_ble_eq_true rfl) (Nat.le_of_ble_eq_true rfl) (Nat.le_refl _) (Nat.le_of_ble_eq_true rfl) (Nat.le_of_ble_eq_true rfl) ?_
        refine X_push (v := .int 0) rfl (by decide +kernel) ?_
        refine X_scall l_X11_X11_valueAt (c_valueAt hG (d + 1) ) rfl rfl rfl (Nat.le_of_ble_eq_true rfl) (Nat.le_of_ble_eq_true rfl) (Nat.le_refl _) (Nat.le_of_ble_eq_true rfl) (Nat.le_of_ble_eq_true rfl) ?_
        refine X_icmp_ge rfl (fun c55 => ?_) (fun c55 => absurd ((n_le (m_valueAt e1k (show (0 : Int32) = nI 0 from rfl)) rfl (by omega) (by omega)).mpr (by omega)) c55)
        exact K
      | succ f9 ih =>
        intro k e0 
        have e1k := e1k0 k
        refine X_ld rfl rfl rfl rfl ?_
        refine X_ld rfl rfl rfl rfl ?_
        refine X_push (v := .int 1) rfl (by decide +kernel) ?_
        refine X_mcall l_X11_X11_get (c_get hG (d + 1) (s_nx w) s_ch3 s_nx_lt 1 (by omega) (show (1 : Int32) = nI 1 from rfl)) rfl rfl rfl rfl (Nat.le_of_ble_eq_true rfl) (Nat.le_of_ble_eq_true rfl) (Nat.le_refl _) (Nat.le_of_ble_eq_true rfl) (Nat.le_of_ble_eq_true rfl) ?_
        refine X_push (v := .int 0) rfl (by decide +kernel) ?_
        refine X_scall l_X11_X11_valueAt (c_valueAt hG (d + 1) ) rfl rfl rfl (Nat.le_of_ble_eq_true rfl) (Nat.le_of_ble_eq_true rfl) (Nat.le_refl _) (Nat.le_of_ble_eq_true rfl) (Nat.le_of_ble_eq_true rfl) ?_
        refine X_icmp_ge rfl (fun c55 => absurd ((n_le (m_valueAt e1k (show (0 : Int32) = nI 0 from rfl)) rfl (by omega) (by omega)).mp c55) (by omega)) (fun c55 => ?_)
        refine X_ld rfl rfl rfl rfl ?_
        refine X_ld rfl rfl rfl rfl ?_
        refine X_ld rfl rfl rfl rfl ?_
        refine X_ld rfl rfl rfl rfl ?_
        refine X_push (v := .int 5) rfl (by decide +kernel) ?_
        refine X_bin rfl rfl ?_
        refine X_mcall l_X11_X11_get (c_get hG (d + 1) (s_nx w) s_ch3 s_nx_lt ((75 + 5 * l + 0 + k) + 5) (by omega) (m_add rfl (show (5 : Int32) = nI 5 from rfl))) rfl rfl rfl rfl (Nat.le_of_ble_eq_true rfl) (Nat.le_of_ble_eq_true rfl) (Nat.le_refl _) (Nat.le_of_ble_eq_true rfl) (Nat.le_of_ble_eq_true rfl) ?_
        refine X_mcallv l_X11_X11_put (c_put hG (d + 1) (s_nx w) s_ch3 s_nx_lt (75 + 5 * l + 0 + k) (by omega) rfl) rfl rfl rfl rfl (Nat.le_of_ble_eq_true rfl) (Nat.le_of_ble_eq_true rfl) (Nat.le_refl _) (Nat.le_of_ble_eq_true rfl) (Nat.le_of_ble_eq_true rfl) ?_
        refine X_iinc rfl rfl rfl ?_
        refine X_goto rfl ?_
        refine X_rowC (c := s_shift (upd (S w) 1 (nI (s_lm (S w) - 1))) (75 + 5 * l + 0) k) rfl (s_shift (upd (S w) 1 (nI (s_lm (S w) - 1))) (75 + 5 * l + 0) (k + 1)) (by rw [updR_eq]; exact s_shift_1) (fun S4 e4 f4 => ?_)
        rw [f4]
        refine X_loc (L' := [some (.ref 275), some (.int x), some (.int (nI (75 + 5 * l + 0 + (k + 1))))]) ⟨rfl, rfl, congrArg Value.int (m_inc rfl).symm, trivial⟩ ?_
        exact ih (k + 1) (by omega)
    refine X_heap (N' := mset B (s_ch (upd I 0 0) w u) T (updR S (s_nx w) (s_shift (upd (S w) 1 (nI (s_lm (S w) - 1))) (75 + 5 * l + 0) 0)) rd tx gv (fun i => b2 (P i))) (by rw [f2, s_shift_0]) ?_
    refine X_loc (L' := [some (.ref 275), some (.int x), some (.int (nI (75 + 5 * l + 0 + 0)))]) ⟨rfl, rfl, congrArg Value.int (m_valueAt hl2 (rfl : (0 : Int32) = nI 0)).symm, trivial⟩ ?_
    refine loop ?_ _ 0 (Nat.zero_add _)
    have e1k := e1k0 ((5 * (s_lm (S w) - 1 - l)))
    refine X_ld rfl rfl rfl rfl ?_
    refine X_push (v := .int 1) rfl (by decide +kernel) ?_
    refine X_mcall l_X11_X11_get (c_get hG (d + 1) (s_nx w) s_ch3 s_nx_lt 1 (by omega) (show (1 : Int32) = nI 1 from rfl)) rfl rfl rfl rfl (Nat.le_of_ble_eq_true rfl) (Nat.le_of_ble_eq_true rfl) (Nat.le_refl _) (Nat.le_of_ble_eq_true rfl) (Nat.le_of_ble_eq_true rfl) ?_
    refine X_stk (congrArg (fun q => Value.int q :: _) e1k) ?_
    exact X_iret rfl rfl (a_retM1 (by unfold a_delete s_del; rw [if_pos h21, el]) rfl) (Nat.le_of_ble_eq_true rfl) (Nat.le_of_ble_eq_true rfl)
  · refine X_mcall l_X11_X11_right (c_rightF hG (d + 1) h21 updI_eq (by decide)) rfl rfl rfl rfl (Nat.le_of_ble_eq_true rfl) (Nat.le_of_ble_eq_true rfl) (Nat.le_refl _) (Nat.le_of_ble_eq_true rfl) (Nat.le_of_ble_eq_true rfl) ?_
    refine X_heap (N' := mset B (upd I 0 1) T S rd tx gv (fun i => b2 (P i))) (by rw [upd_upd]) ?_
    refine X_if_ne rfl (fun c24 => absurd (by decide) c24) (fun c24 => ?_)
    refine X_push (v := .int 0) rfl (by decide +kernel) ?_
    exact X_iret rfl rfl (a_retM0 (by unfold a_delete; rw [if_neg h21])) (Nat.le_of_ble_eq_true rfl) (Nat.le_of_ble_eq_true rfl)
def s_sti (c : Nat → Int32) (j : Nat) (z : Bool) : Nat → Int32 := upd (upd c (10 + 13 * j + 9) (b2 z)) 3 (c 3 + (if s_col c j 9 = b2 z then 0 else 1))
def a_setIndex (c : Nat → Int32) (x : Int32) (z : Bool) : Int32 × Int32 × Option (Nat → Int32) :=
  if (0 : Int32) ≤ x ∧ x ≤ c 0 - 1 then (0, (if s_col c (n_ x) 9 = b2 z then 0 else 1), some (s_sti c (n_ x) z)) else (1, 0, none)
theorem c_setIndex {G : XE} (hG : x_Kn G) {B : XH} {I : Nat → Int32} {T : Int64} {S : Nat → Nat → Int32} {rd tx gv : Nat → Int32} {P : Nat → Bool} (d : Nat) (w : Nat) (hw : I 3 = nI w) (hw9 : w < 9) (u : Nat) (hu : I 4 = nI u) (hu8 : u ≤ 8) (hwf : s_wf (S w)) {x : Int32} (z : Bool) : x_M G mX11_setIndex (d + 2) 0 0 [.ref 275, .int x, .int (b2 z)] (mset B I T S rd tx gv (fun i => b2 (P i))) (x_RetM B I T S rd tx w u (a_setIndex (S w) x z)) x_noX := by
  refine X_M hG okX11_setIndex rfl (L := [some (.ref 275), some (.int x), some (.int (b2 z)), none, none]) rfl (Nat.le_of_ble_eq_true rfl) (fun ad0 nb0 => ?_)
  have hcm5 := hwf.cmE.2
  have hlm40 := hwf.lmE.2
  have hsm6 := hwf.smE.2
  cases z with
  | true =>
    refine X_ld rfl rfl rfl rfl ?_
    refine X_push (v := .int 0) rfl (by decide +kernel) ?_
    refine X_mput f_X11_37 rfl rfl ?_
    refine X_ld rfl rfl rfl rfl ?_
    refine X_ld rfl rfl rfl rfl ?_
    by_cases h7 : (0 : Int32) ≤ x ∧ x ≤ S w 0 - 1
    · refine X_mcall l_X11_X11_noColumn (c_noColumnT hG d w (updI_I3 hw) hw9 updI_eq h7) rfl rfl rfl rfl (Nat.le_of_ble_eq_true rfl) (Nat.le_of_ble_eq_true rfl) (Nat.le_refl _) (Nat.le_of_ble_eq_true rfl) (Nat.le_of_ble_eq_true rfl) ?_
      refine X_if_eq rfl (fun c10 => ?_) (fun c10 => absurd (by decide) c10)
      obtain ⟨j, hj1, hj2⟩ := m_rng hwf.cmE.1 (by have := hwf.cmE.2; omega) h7
      have ej : n_ x = j := by unfold n_; rw [hj2]; exact nI_clamp (by omega)
      refine X_ld rfl rfl rfl rfl ?_
      refine X_mcallv l_X11_X11_change (c_change hG (d + 1) w (updI_I3 hw) hw9 u ((updI_ne (by decide)).trans hu) hu8) rfl rfl rfl rfl (Nat.le_of_ble_eq_true rfl) (Nat.le_of_ble_eq_true rfl) (Nat.le_refl _) (Nat.le_of_ble_eq_true rfl) (Nat.le_of_ble_eq_true rfl) ?_
      refine X_rowN (fun S1 e1 f1 => ?_)
      refine X_ld rfl rfl rfl rfl ?_
      refine X_if_eq rfl (fun c20 => absurd c20 (by decide)) (fun c20 => ?_)
      refine X_push (v := .int 1) rfl (by decide +kernel) ?_
      refine X_goto rfl ?_
      refine X_st rfl rfl rfl ?_
      refine X_ld rfl rfl rfl rfl ?_
      refine X_ld rfl rfl rfl rfl ?_
      refine X_push (v := .int 9) rfl (by decide +kernel) ?_
      refine X_mcall l_X11_X11_ofColumn (c_ofColumn hG d (s_nx w) s_ch3 s_nx_lt j 9 (by omega) hj2 (show (9 : Int32) = nI 9 from rfl)) rfl rfl rfl rfl (Nat.le_of_ble_eq_true rfl) (Nat.le_of_ble_eq_true rfl) (Nat.le_refl _) (Nat.le_of_ble_eq_true rfl) (Nat.le_of_ble_eq_true rfl) ?_
      refine X_ld rfl rfl rfl rfl ?_
      refine X_icmp_eq rfl (fun c37 => ?_) (fun c37 => ?_)
      · refine X_push (v := .int 0) rfl (by decide +kernel) ?_
        refine X_st rfl rfl rfl ?_
        refine X_ld rfl rfl rfl rfl ?_
        refine X_ld rfl rfl rfl rfl ?_
        refine X_push (v := .int 9) rfl (by decide +kernel) ?_
        refine X_scall l_X11_X11_columnAt (c_columnAt hG (d + 1) ) rfl rfl rfl (Nat.le_of_ble_eq_true rfl) (Nat.le_of_ble_eq_true rfl) (Nat.le_refl _) (Nat.le_of_ble_eq_true rfl) (Nat.le_of_ble_eq_true rfl) ?_
        refine X_ld rfl rfl rfl rfl ?_
        refine X_mcallv l_X11_X11_put (c_put hG (d + 1) (s_nx w) s_ch3 s_nx_lt (10 + 13 * j + 9) (by omega) (m_columnAt hj2 (show (9 : Int32) = nI 9 from rfl))) rfl rfl rfl rfl (Nat.le_of_ble_eq_true rfl) (Nat.le_of_ble_eq_true rfl) (Nat.le_refl _) (Nat.le_of_ble_eq_true rfl) (Nat.le_of_ble_eq_true rfl) ?_
        have c37 : s_col (S w) j 9 = b2 true := by rw [e1] at c37; exact c37
        refine X_row f1 (upd (S w) (10 + 13 * j + 9) (b2 true)) rfl (fun S2 e2 f2 => ?_)
        refine X_ld rfl rfl rfl rfl ?_
        refine X_push (v := .int 3) rfl (by decide +kernel) ?_
        refine X_ld rfl rfl rfl rfl ?_
        refine X_if_eq rfl (fun c62 => ?_) (fun c62 => absurd (by decide) c62)
        refine X_push (v := .int 0) rfl (by decide +kernel) ?_
        refine X_mcallv l_X11_X11_add (c_add hG (d + 1) (s_nx w) s_ch3 s_nx_lt 3 (by omega) (show (3 : Int32) = nI 3 from rfl)) rfl rfl rfl rfl (Nat.le_of_ble_eq_true rfl) (Nat.le_of_ble_eq_true rfl) (Nat.le_refl _) (Nat.le_of_ble_eq_true rfl) (Nat.le_of_ble_eq_true rfl) ?_
        refine X_row f2 (s_sti (S w) j true) (by rw [e2, updI_ne (by omega), show s_sti (S w) j true = _ from rfl]; unfold s_sti; rw [if_pos c37]) (fun S3 e3 f3 => ?_)
        refine X_ld rfl rfl rfl rfl ?_
        exact X_zret rfl rfl rfl (a_retM1 (by unfold a_setIndex; rw [if_pos h7, ej, if_pos c37]) f3) (Nat.le_of_ble_eq_true rfl) (Nat.le_of_ble_eq_true rfl)
      · refine X_push (v := .int 1) rfl (by decide +kernel) ?_
        refine X_goto rfl ?_
        refine X_st rfl rfl rfl ?_
        refine X_ld rfl rfl rfl rfl ?_
        refine X_ld rfl rfl rfl rfl ?_
        refine X_push (v := .int 9) rfl (by decide +kernel) ?_
        refine X_scall l_X11_X11_columnAt (c_columnAt hG (d + 1) ) rfl rfl rfl (Nat.le_of_ble_eq_true rfl) (Nat.le_of_ble_eq_true rfl) (Nat.le_refl _) (Nat.le_of_ble_eq_true rfl) (Nat.le_of_ble_eq_true rfl) ?_
        refine X_ld rfl rfl rfl rfl ?_
        refine X_mcallv l_X11_X11_put (c_put hG (d + 1) (s_nx w) s_ch3 s_nx_lt (10 + 13 * j + 9) (by omega) (m_columnAt hj2 (show (9 : Int32) = nI 9 from rfl))) rfl rfl rfl rfl (Nat.le_of_ble_eq_true rfl) (Nat.le_of_ble_eq_true rfl) (Nat.le_refl _) (Nat.le_of_ble_eq_true rfl) (Nat.le_of_ble_eq_true rfl) ?_
        have c37 : ¬ s_col (S w) j 9 = b2 true := by rw [e1] at c37; exact c37
        refine X_row f1 (upd (S w) (10 + 13 * j + 9) (b2 true)) rfl (fun S2 e2 f2 => ?_)
        refine X_ld rfl rfl rfl rfl ?_
        refine X_push (v := .int 3) rfl (by decide +kernel) ?_
        refine X_ld rfl rfl rfl rfl ?_
        refine X_if_eq rfl (fun c62 => absurd c62 (by decide)) (fun c62 => ?_)
        refine X_push (v := .int 1) rfl (by decide +kernel) ?_
        refine X_goto rfl ?_
        refine X_mcallv l_X11_X11_add (c_add hG (d + 1) (s_nx w) s_ch3 s_nx_lt 3 (by omega) (show (3 : Int32) = nI 3 from rfl)) rfl rfl rfl rfl (Nat.le_of_ble_eq_true rfl) (Nat.le_of_ble_eq_true rfl) (Nat.le_refl _) (Nat.le_of_ble_eq_true rfl) (Nat.le_of_ble_eq_true rfl) ?_
        refine X_row f2 (s_sti (S w) j true) (by rw [e2, updI_ne (by omega), show s_sti (S w) j true = _ from rfl]; unfold s_sti; rw [if_neg c37]) (fun S3 e3 f3 => ?_)
        refine X_ld rfl rfl rfl rfl ?_
        exact X_zret rfl rfl rfl (a_retM1 (by unfold a_setIndex; rw [if_pos h7, ej, if_neg c37]) f3) (Nat.le_of_ble_eq_true rfl) (Nat.le_of_ble_eq_true rfl)
    · refine X_mcall l_X11_X11_noColumn (c_noColumnF hG d w (updI_I3 hw) hw9 updI_eq h7) rfl rfl rfl rfl (Nat.le_of_ble_eq_true rfl) (Nat.le_of_ble_eq_true rfl) (Nat.le_refl _) (Nat.le_of_ble_eq_true rfl) (Nat.le_of_ble_eq_true rfl) ?_
      refine X_heap (N' := mset B (upd I 0 1) T S rd tx gv (fun i => b2 (P i))) (by rw [upd_upd]) ?_
      refine X_if_eq rfl (fun c10 => absurd c10 (by decide)) (fun c10 => ?_)
      refine X_push (v := .int 0) rfl (by decide +kernel) ?_
      exact X_zret rfl rfl rfl (a_retM0 (by unfold a_setIndex; rw [if_neg h7])) (Nat.le_of_ble_eq_true rfl) (Nat.le_of_ble_eq_true rfl)
  | false =>
    refine X_ld rfl rfl rfl rfl ?_
    refine X_push (v := .int 0) rfl (by decide +kernel) ?_
    refine X_mput f_X11_37 rfl rfl ?_
    refine X_ld rfl rfl rfl rfl ?_
    refine X_ld rfl rfl rfl rfl ?_
    by_cases h7 : (0 : Int32) ≤ x ∧ x ≤ S w 0 - 1
    · refine X_mcall l_X11_X11_noColumn (c_noColumnT hG d w (updI_I3 hw) hw9 updI_eq h7) rfl rfl rfl rfl (Nat.le_of_ble_eq_true rfl) (Nat.le_of_ble_eq_true rfl) (Nat.le_refl _) (Nat.le_of_ble_eq_true rfl) (Nat.le_of_ble_eq_true rfl) ?_
      refine X_if_eq rfl (fun c10 => ?_) (fun c10 => absurd (by decide) c10)
      obtain ⟨j, hj1, hj2⟩ := m_rng hwf.cmE.1 (by have := hwf.cmE.2; omega) h7
      have ej : n_ x = j := by unfold n_; rw [hj2]; exact nI_clamp (by omega)
      refine X_ld rfl rfl rfl rfl ?_
      refine X_mcallv l_X11_X11_change (c_change hG (d + 1) w (updI_I3 hw) hw9 u ((updI_ne (by decide)).trans hu) hu8) rfl rfl rfl rfl (Nat.le_of_ble_eq_true rfl) (Nat.le_of_ble_eq_true rfl) (Nat.le_refl _) (Nat.le_of_ble_eq_true rfl) (Nat.le_of_ble_eq_true rfl) ?_
      refine X_rowN (fun S1 e1 f1 => ?_)
      refine X_ld rfl rfl rfl rfl ?_
      refine X_if_eq rfl (fun c20 => ?_) (fun c20 => absurd rfl c20)
      refine X_push (v := .int 0) rfl (by decide +kernel) ?_
      refine X_st rfl rfl rfl ?_
      refine X_ld rfl rfl rfl rfl ?_
      refine X_ld rfl rfl rfl rfl ?_
      refine X_push (v := .int 9) rfl (by decide +kernel) ?_
      refine X_mcall l_X11_X11_ofColumn (c_ofColumn hG d (s_nx w) s_ch3 s_nx_lt j 9 (by omega) hj2 (show (9 : Int32) = nI 9 from rfl)) rfl rfl rfl rfl (Nat.le_of_ble_eq_true rfl) (Nat.le_of_ble_eq_true rfl) (Nat.le_refl _) (Nat.le_of_ble_eq_true rfl) (Nat.le_of_ble_eq_true rfl) ?_
      refine X_ld rfl rfl rfl rfl ?_
      refine X_icmp_eq rfl (fun c37 => ?_) (fun c37 => ?_)
      · refine X_push (v := .int 0) rfl (by decide +kernel) ?_
        refine X_st rfl rfl rfl ?_
        refine X_ld rfl rfl rfl rfl ?_
        refine X_ld rfl rfl rfl rfl ?_
        refine X_push (v := .int 9) rfl (by decide +kernel) ?_
        refine X_scall l_X11_X11_columnAt (c_columnAt hG (d + 1) ) rfl rfl rfl (Nat.le_of_ble_eq_true rfl) (Nat.le_of_ble_eq_true rfl) (Nat.le_refl _) (Nat.le_of_ble_eq_true rfl) (Nat.le_of_ble_eq_true rfl) ?_
        refine X_ld rfl rfl rfl rfl ?_
        refine X_mcallv l_X11_X11_put (c_put hG (d + 1) (s_nx w) s_ch3 s_nx_lt (10 + 13 * j + 9) (by omega) (m_columnAt hj2 (show (9 : Int32) = nI 9 from rfl))) rfl rfl rfl rfl (Nat.le_of_ble_eq_true rfl) (Nat.le_of_ble_eq_true rfl) (Nat.le_refl _) (Nat.le_of_ble_eq_true rfl) (Nat.le_of_ble_eq_true rfl) ?_
        have c37 : s_col (S w) j 9 = b2 false := by rw [e1] at c37; exact c37
        refine X_row f1 (upd (S w) (10 + 13 * j + 9) (b2 false)) rfl (fun S2 e2 f2 => ?_)
        refine X_ld rfl rfl rfl rfl ?_
        refine X_push (v := .int 3) rfl (by decide +kernel) ?_
        refine X_ld rfl rfl rfl rfl ?_
        refine X_if_eq rfl (fun c62 => ?_) (fun c62 => absurd (by decide) c62)
        refine X_push (v := .int 0) rfl (by decide +kernel) ?_
        refine X_mcallv l_X11_X11_add (c_add hG (d + 1) (s_nx w) s_ch3 s_nx_lt 3 (by omega) (show (3 : Int32) = nI 3 from rfl)) rfl rfl rfl rfl (Nat.le_of_ble_eq_true rfl) (Nat.le_of_ble_eq_true rfl) (Nat.le_refl _) (Nat.le_of_ble_eq_true rfl) (Nat.le_of_ble_eq_true rfl) ?_
        refine X_row f2 (s_sti (S w) j false) (by rw [e2, updI_ne (by omega), show s_sti (S w) j false = _ from rfl]; unfold s_sti; rw [if_pos c37]) (fun S3 e3 f3 => ?_)
        refine X_ld rfl rfl rfl rfl ?_
        exact X_zret rfl rfl rfl (a_retM1 (by unfold a_setIndex; rw [if_pos h7, ej, if_pos c37]) f3) (Nat.le_of_ble_eq_true rfl) (Nat.le_of_ble_eq_true rfl)
      · refine X_push (v := .int 1) rfl (by decide +kernel) ?_
        refine X_goto rfl ?_
        refine X_st rfl rfl rfl ?_
        refine X_ld rfl rfl rfl rfl ?_
        refine X_ld rfl rfl rfl rfl ?_
        refine X_push (v := .int 9) rfl (by decide +kernel) ?_
        refine X_scall l_X11_X11_columnAt (c_columnAt hG (d + 1) ) rfl rfl rfl (Nat.le_of_ble_eq_true rfl) (Nat.le_of_ble_eq_true rfl) (Nat.le_refl _) (Nat.le_of_ble_eq_true rfl) (Nat.le_of_ble_eq_true rfl) ?_
        refine X_ld rfl rfl rfl rfl ?_
        refine X_mcallv l_X11_X11_put (c_put hG (d + 1) (s_nx w) s_ch3 s_nx_lt (10 + 13 * j + 9) (by omega) (m_columnAt hj2 (show (9 : Int32) = nI 9 from rfl))) rfl rfl rfl rfl (Nat.le_of_ble_eq_true rfl) (Nat.le_of_ble_eq_true rfl) (Nat.le_refl _) (Nat.le_of_ble_eq_true rfl) (Nat.le_of_ble_eq_true rfl) ?_
        have c37 : ¬ s_col (S w) j 9 = b2 false := by rw [e1] at c37; exact c37
        refine X_row f1 (upd (S w) (10 + 13 * j + 9) (b2 false)) rfl (fun S2 e2 f2 => ?_)
        refine X_ld rfl rfl rfl rfl ?_
        refine X_push (v := .int 3) rfl (by decide +kernel) ?_
        refine X_ld rfl rfl rfl rfl ?_
        refine X_if_eq rfl (fun c62 => absurd c62 (by decide)) (fun c62 => ?_)
        refine X_push (v := .int 1) rfl (by decide +kernel) ?_
        refine X_goto rfl ?_
        refine X_mcallv l_X11_X11_add (c_add hG (d + 1) (s_nx w) s_ch3 s_nx_lt 3 (by omega) (show (3 : Int32) = nI 3 from rfl)) rfl rfl rfl rfl (Nat.le_of_ble_eq_true rfl) (Nat.le_of_ble_eq_true rfl) (Nat.le_refl _) (Nat.le_of_ble_eq_true rfl) (Nat.le_of_ble_eq_true rfl) ?_
        refine X_row f2 (s_sti (S w) j false) (by rw [e2, updI_ne (by omega), show s_sti (S w) j false = _ from rfl]; unfold s_sti; rw [if_neg c37]) (fun S3 e3 f3 => ?_)
        refine X_ld rfl rfl rfl rfl ?_
        exact X_zret rfl rfl rfl (a_retM1 (by unfold a_setIndex; rw [if_pos h7, ej, if_neg c37]) f3) (Nat.le_of_ble_eq_true rfl) (Nat.le_of_ble_eq_true rfl)
    · refine X_mcall l_X11_X11_noColumn (c_noColumnF hG d w (updI_I3 hw) hw9 updI_eq h7) rfl rfl rfl rfl (Nat.le_of_ble_eq_true rfl) (Nat.le_of_ble_eq_true rfl) (Nat.le_refl _) (Nat.le_of_ble_eq_true rfl) (Nat.le_of_ble_eq_true rfl) ?_
      refine X_heap (N' := mset B (upd I 0 1) T S rd tx gv (fun i => b2 (P i))) (by rw [upd_upd]) ?_
      refine X_if_eq rfl (fun c10 => absurd c10 (by decide)) (fun c10 => ?_)
      refine X_push (v := .int 0) rfl (by decide +kernel) ?_
      exact X_zret rfl rfl rfl (a_retM0 (by unfold a_setIndex; rw [if_neg h7])) (Nat.le_of_ble_eq_true rfl) (Nat.le_of_ble_eq_true rfl)
/-- is line l's value in column j another than those of the first m lines -/
def s_new (c : Nat → Int32) (j l : Nat) : Nat → Bool
  | 0 => true
  | m + 1 => s_new c j l m && !decide (s_val c m j = s_val c l j)
def s_unl (c : Nat → Int32) (j : Nat) : Nat → Int32
  | 0 => 0
  | l + 1 => s_unl c j l + (bif s_new c j l l then 1 else 0)
def s_ext (c : Nat → Int32) (j : Nat) (z : Bool) : Nat → Int32
  | 0 => if c 1 = 0 then 0 else s_val c 0 j
  | l + 1 => bif z then x_max (s_ext c j z l) (s_val c l j) else x_min (s_ext c j z l) (s_val c l j)
theorem c_unlike {G : XE} (hG : x_Kn G) {B : XH} {I : Nat → Int32} {T : Int64} {S : Nat → Nat → Int32} {rd tx gv pl : Nat → Int32} (d : Nat) (w : Nat) (hw : I 3 = nI w) (hw9 : w < 9) (q : Nat) (hq : S w 1 = nI q) (hq40 : q ≤ 40) (j : Nat) (hj : j < 5) {x : Int32} (hx : x = nI j) : x_M G mX11_unlike (d + 2) 0 0 [.ref 275, .int x] (mset B I T S rd tx gv pl) (x_Ret (mset B I T S rd tx gv pl) (.int (s_unl (S w) j q))) x_noX := by
  refine X_M hG okX11_unlike rfl (L := [some (.ref 275), some (.int x), none, none, none, none]) rfl (Nat.le_of_ble_eq_true rfl) (fun ad0 nb0 => ?_)
  have inner : ∀ (l : Nat) (_ : l < q), x_W G mX11_unlike (x_Z G (d + 2) 0 0 ad0 nb0 (x_Ret (mset B I T S rd tx gv pl) (.int (s_unl (S w) j q))) x_noX) (mset B I T S rd tx gv pl) 0 0 65 [some (.ref 275), some (.int x), some (.int (s_unl (S w) j l)), some (.int (nI l)), some (.int (b2 (s_new (S w) j l l))), some (.int (nI l))] [] → ∀ (f9 m : Nat), m + f9 = l → x_W G mX11_unlike (x_Z G (d + 2) 0 0 ad0 nb0 (x_Ret (mset B I T S rd tx gv pl) (.int (s_unl (S w) j q))) x_noX) (mset B I T S rd tx gv pl) 0 0 19 [some (.ref 275), some (.int x), some (.int (s_unl (S w) j l)), some (.int (nI l)), some (.int (b2 (s_new (S w) j l m))), some (.int (nI m))] [] := by
    intro l hl K f9
    induction f9 with
    | zero =>
      intro m e0 
      obtain e9 : m = l := by omega
      subst m
      refine X_ld rfl rfl rfl rfl ?_
      refine X_ld rfl rfl rfl rfl ?_
      refine X_icmp_ge rfl (fun c22 => ?_) (fun c22 => absurd ((n_le rfl rfl (by omega) (by omega)).mpr (by omega)) c22)
      exact K
    | succ f9 ih =>
      intro m e0 
      refine X_ld rfl rfl rfl rfl ?_
      refine X_ld rfl rfl rfl rfl ?_
      refine X_icmp_ge rfl (fun c22 => absurd ((n_le rfl rfl (by omega) (by omega)).mp c22) (by omega)) (fun c22 => ?_)
      refine X_ld rfl rfl rfl rfl ?_
      refine X_if_eq rfl (fun c27 => ?_) (fun c27 => ?_)
      · have h27 : (s_new (S w) j l m) = false := b2_0 c27
        refine X_push (v := .int 0) rfl (by decide +kernel) ?_
        refine X_st rfl rfl rfl ?_
        refine X_iinc rfl rfl rfl ?_
        refine X_goto rfl ?_
        have e : s_new (S w) j l (m + 1) = false := (show (s_new (S w) j l m && !decide (s_val (S w) m j = s_val (S w) l j)) = _ from by rw [h27]; rfl)
        refine X_loc (L' := [some (.ref 275), some (.int x), some (.int (s_unl (S w) j l)), some (.int (nI l)), some (.int (b2 (s_new (S w) j l (m + 1)))), some (.int (nI (m + 1)))]) ⟨rfl, rfl, rfl, rfl, congrArg (fun q => Value.int (b2 q)) e, congrArg Value.int (m_inc rfl).symm, trivial⟩ ?_
        exact ih (m + 1) (by omega)
      · have h27 : (s_new (S w) j l m) = true := b2_1 c27
        refine X_ld rfl rfl rfl rfl ?_
        refine X_ld rfl rfl rfl rfl ?_
        refine X_ld rfl rfl rfl rfl ?_
        refine X_scall l_X11_X11_valueAt (c_valueAt hG (d + 1) ) rfl rfl rfl (Nat.le_of_ble_eq_true rfl) (Nat.le_of_ble_eq_true rfl) (Nat.le_refl _) (Nat.le_of_ble_eq_true rfl) (Nat.le_of_ble_eq_true rfl) ?_
        refine X_mcall l_X11_X11_get (c_get hG (d + 1) w hw hw9 (75 + 5 * m + j) (by omega) (m_valueAt rfl hx)) rfl rfl rfl rfl (Nat.le_of_ble_eq_true rfl) (Nat.le_of_ble_eq_true rfl) (Nat.le_refl _) (Nat.le_of_ble_eq_true rfl) (Nat.le_of_ble_eq_true rfl) ?_
        refine X_ld rfl rfl rfl rfl ?_
        refine X_ld rfl rfl rfl rfl ?_
        refine X_ld rfl rfl rfl rfl ?_
        refine X_scall l_X11_X11_valueAt (c_valueAt hG (d + 1) ) rfl rfl rfl (Nat.le_of_ble_eq_true rfl) (Nat.le_of_ble_eq_true rfl) (Nat.le_refl _) (Nat.le_of_ble_eq_true rfl) (Nat.le_of_ble_eq_true rfl) ?_
        refine X_mcall l_X11_X11_get (c_get hG (d + 1) w hw hw9 (75 + 5 * l + j) (by omega) (m_valueAt rfl hx)) rfl rfl rfl rfl (Nat.le_of_ble_eq_true rfl) (Nat.le_of_ble_eq_true rfl) (Nat.le_refl _) (Nat.le_of_ble_eq_true rfl) (Nat.le_of_ble_eq_true rfl) ?_
        refine X_icmp_eq rfl (fun c49 => ?_) (fun c49 => ?_)
        · refine X_push (v := .int 0) rfl (by decide +kernel) ?_
          refine X_st rfl rfl rfl ?_
          refine X_iinc rfl rfl rfl ?_
          refine X_goto rfl ?_
          have e : s_new (S w) j l (m + 1) = false := (show (s_new (S w) j l m && !decide (s_val (S w) m j = s_val (S w) l j)) = _ from by rw [h27, decide_eq_true c49]; rfl)
          refine X_loc (L' := [some (.ref 275), some (.int x), some (.int (s_unl (S w) j l)), some (.int (nI l)), some (.int (b2 (s_new (S w) j l (m + 1)))), some (.int (nI (m + 1)))]) ⟨rfl, rfl, rfl, rfl, congrArg (fun q => Value.int (b2 q)) e, congrArg Value.int (m_inc rfl).symm, trivial⟩ ?_
          exact ih (m + 1) (by omega)
        · refine X_push (v := .int 1) rfl (by decide +kernel) ?_
          refine X_goto rfl ?_
          refine X_st rfl rfl rfl ?_
          refine X_iinc rfl rfl rfl ?_
          refine X_goto rfl ?_
          have e : s_new (S w) j l (m + 1) = true := (show (s_new (S w) j l m && !decide (s_val (S w) m j = s_val (S w) l j)) = _ from by rw [h27, decide_eq_false c49]; rfl)
          refine X_loc (L' := [some (.ref 275), some (.int x), some (.int (s_unl (S w) j l)), some (.int (nI l)), some (.int (b2 (s_new (S w) j l (m + 1)))), some (.int (nI (m + 1)))]) ⟨rfl, rfl, rfl, rfl, congrArg (fun q => Value.int (b2 q)) e, congrArg Value.int (m_inc rfl).symm, trivial⟩ ?_
          exact ih (m + 1) (by omega)
  have loop : x_W G mX11_unlike (x_Z G (d + 2) 0 0 ad0 nb0 (x_Ret (mset B I T S rd tx gv pl) (.int (s_unl (S w) j q))) x_noX) (mset B I T S rd tx gv pl) 0 0 84 [some (.ref 275), some (.int x), some (.int (s_unl (S w) j q)), some (.int (nI q)), none, none] [] → ∀ (f9 l : Nat), l + f9 = q → x_W G mX11_unlike (x_Z G (d + 2) 0 0 ad0 nb0 (x_Ret (mset B I T S rd tx gv pl) (.int (s_unl (S w) j q))) x_noX) (mset B I T S rd tx gv pl) 0 0 4 [some (.ref 275), some (.int x), some (.int (s_unl (S w) j l)), some (.int (nI l)), none, none] [] := by
    intro K f9
    induction f9 with
    | zero =>
      intro l e0 
      obtain e9 : l = q := by omega
      subst l
      refine X_ld rfl rfl rfl rfl ?_
      refine X_ld rfl rfl rfl rfl ?_
      refine X_push (v := .int 1) rfl (by decide +kernel) ?_
      refine X_mcall l_X11_X11_get (c_get hG (d + 1) w hw hw9 1 (by omega) (show (1 : Int32) = nI 1 from rfl)) rfl rfl rfl rfl (Nat.le_of_ble_eq_true rfl) (Nat.le_of_ble_eq_true rfl) (Nat.le_refl _) (Nat.le_of_ble_eq_true rfl) (Nat.le_of_ble_eq_true rfl) ?_
      refine X_icmp_ge rfl (fun c10 => ?_) (fun c10 => absurd ((n_le hq rfl (by omega) (by omega)).mpr (by omega)) c10)
      exact K
    | succ f9 ih =>
      intro l e0 
      refine X_ld rfl rfl rfl rfl ?_
      refine X_ld rfl rfl rfl rfl ?_
      refine X_push (v := .int 1) rfl (by decide +kernel) ?_
      refine X_mcall l_X11_X11_get (c_get hG (d + 1) w hw hw9 1 (by omega) (show (1 : Int32) = nI 1 from rfl)) rfl rfl rfl rfl (Nat.le_of_ble_eq_true rfl) (Nat.le_of_ble_eq_true rfl) (Nat.le_refl _) (Nat.le_of_ble_eq_true rfl) (Nat.le_of_ble_eq_true rfl) ?_
      refine X_icmp_ge rfl (fun c10 => absurd ((n_le hq rfl (by omega) (by omega)).mp c10) (by omega)) (fun c10 => ?_)
      refine X_push (v := .int 1) rfl (by decide +kernel) ?_
      refine X_st rfl rfl rfl ?_
      refine X_push (v := .int 0) rfl (by decide +kernel) ?_
      refine X_st rfl rfl rfl ?_
      refine X_loc (L' := [some (.ref 275), some (.int x), some (.int (s_unl (S w) j l)), some (.int (nI l)), some (.int (b2 (s_new (S w) j l 0))), some (.int (nI 0))]) ⟨rfl, rfl, rfl, rfl, rfl, rfl, trivial⟩ ?_
      refine inner l (by omega) ?_ _ 0 (Nat.zero_add _)
      refine X_ld rfl rfl rfl rfl ?_
      refine X_ld rfl rfl rfl rfl ?_
      refine X_if_eq rfl (fun c68 => ?_) (fun c68 => ?_)
      · have h68 : (s_new (S w) j l l) = false := b2_0 c68
        refine X_push (v := .int 0) rfl (by decide +kernel) ?_
        refine X_bin rfl rfl ?_
        refine X_st rfl rfl rfl ?_
        refine X_iinc rfl rfl rfl ?_
        refine X_goto rfl ?_
        have e : s_unl (S w) j (l + 1) = s_unl (S w) j l + 0 := (show s_unl (S w) j l + (bif s_new (S w) j l l then 1 else 0) = _ from by rw [h68]; rfl)
        refine X_loc (L' := [some (.ref 275), some (.int x), some (.int (s_unl (S w) j (l + 1))), some (.int (nI (l + 1))), none, none]) ⟨rfl, rfl, congrArg Value.int e, congrArg Value.int (m_inc rfl).symm, trivial⟩ ?_
        exact ih (l + 1) (by omega)
      · have h68 : (s_new (S w) j l l) = true := b2_1 c68
        refine X_push (v := .int 1) rfl (by decide +kernel) ?_
        refine X_goto rfl ?_
        refine X_bin rfl rfl ?_
        refine X_st rfl rfl rfl ?_
        refine X_iinc rfl rfl rfl ?_
        refine X_goto rfl ?_
        have e : s_unl (S w) j (l + 1) = s_unl (S w) j l + 1 := (show s_unl (S w) j l + (bif s_new (S w) j l l then 1 else 0) = _ from by rw [h68]; rfl)
        refine X_loc (L' := [some (.ref 275), some (.int x), some (.int (s_unl (S w) j (l + 1))), some (.int (nI (l + 1))), none, none]) ⟨rfl, rfl, congrArg Value.int e, congrArg Value.int (m_inc rfl).symm, trivial⟩ ?_
        exact ih (l + 1) (by omega)
  refine X_push (v := .int 0) rfl (by decide +kernel) ?_
  refine X_st rfl rfl rfl ?_
  refine X_push (v := .int 0) rfl (by decide +kernel) ?_
  refine X_st rfl rfl rfl ?_
  refine X_loc (L' := [some (.ref 275), some (.int x), some (.int (s_unl (S w) j 0)), some (.int (nI 0)), none, none]) ⟨rfl, rfl, rfl, rfl, trivial⟩ ?_
  refine loop ?_ _ 0 (Nat.zero_add _)
  refine X_ld rfl rfl rfl rfl ?_
  exact X_iret rfl rfl ⟨rfl, rfl⟩ (Nat.le_of_ble_eq_true rfl) (Nat.le_of_ble_eq_true rfl)
theorem c_extreme {G : XE} (hG : x_Kn G) {B : XH} {I : Nat → Int32} {T : Int64} {S : Nat → Nat → Int32} {rd tx gv pl : Nat → Int32} (d : Nat) (w : Nat) (hw : I 3 = nI w) (hw9 : w < 9) (q : Nat) (hq : S w 1 = nI q) (hq40 : q ≤ 40) (j : Nat) (hj : j < 5) (z : Bool) {x : Int32} (hx : x = nI j) : x_M G mX11_extreme (d + 2) 0 0 [.ref 275, .int x, .int (b2 z)] (mset B I T S rd tx gv pl) (x_Ret (mset B I T S rd tx gv pl) (.int (s_ext (S w) j z q))) x_noX := by
  refine X_M hG okX11_extreme rfl (L := [some (.ref 275), some (.int x), some (.int (b2 z)), none, none]) rfl (Nat.le_of_ble_eq_true rfl) (fun ad0 nb0 => ?_)
  cases z with
  | true =>
    have loop : x_W G mX11_extreme (x_Z G (d + 2) 0 0 ad0 nb0 (x_Ret (mset B I T S rd tx gv pl) (.int (s_ext (S w) j true q))) x_noX) (mset B I T S rd tx gv pl) 0 0 77 [some (.ref 275), some (.int x), some (.int (b2 true)), some (.int (s_ext (S w) j true q)), some (.int (nI q))] [] → ∀ (f9 l : Nat), l + f9 = q → x_W G mX11_extreme (x_Z G (d + 2) 0 0 ad0 nb0 (x_Ret (mset B I T S rd tx gv pl) (.int (s_ext (S w) j true q))) x_noX) (mset B I T S rd tx gv pl) 0 0 25 [some (.ref 275), some (.int x), some (.int (b2 true)), some (.int (s_ext (S w) j true l)), some (.int (nI l))] [] := by
      intro K f9
      induction f9 with
      | zero =>
        intro l e0 
        obtain e9 : l = q := by omega
        subst l
        refine X_ld rfl rfl rfl rfl ?_
        refine X_ld rfl rfl rfl rfl ?_
        refine X_push (v := .int 1) rfl (by decide +kernel) ?_
        refine X_mcall l_X11_X11_get (c_get hG (d + 1) w hw hw9 1 (by omega) (show (1 : Int32) = nI 1 from rfl)) rfl rfl rfl rfl (Nat.le_of_ble_eq_true rfl) (Nat.le_of_ble_eq_true rfl) (Nat.le_refl _) (Nat.le_of_ble_eq_true rfl) (Nat.le_of_ble_eq_true rfl) ?_
        refine X_icmp_ge rfl (fun c32 => ?_) (fun c32 => absurd ((n_le hq rfl (by omega) (by omega)).mpr (by omega)) c32)
        exact K
      | succ f9 ih =>
        intro l e0 
        refine X_ld rfl rfl rfl rfl ?_
        refine X_ld rfl rfl rfl rfl ?_
        refine X_push (v := .int 1) rfl (by decide +kernel) ?_
        refine X_mcall l_X11_X11_get (c_get hG (d + 1) w hw hw9 1 (by omega) (show (1 : Int32) = nI 1 from rfl)) rfl rfl rfl rfl (Nat.le_of_ble_eq_true rfl) (Nat.le_of_ble_eq_true rfl) (Nat.le_refl _) (Nat.le_of_ble_eq_true rfl) (Nat.le_of_ble_eq_true rfl) ?_
        refine X_icmp_ge rfl (fun c32 => absurd ((n_le hq rfl (by omega) (by omega)).mp c32) (by omega)) (fun c32 => ?_)
        refine X_ld rfl rfl rfl rfl ?_
        refine X_if_eq rfl (fun c36 => absurd c36 (by decide)) (fun c36 => ?_)
        refine X_ld rfl rfl rfl rfl ?_
        refine X_ld rfl rfl rfl rfl ?_
        refine X_ld rfl rfl rfl rfl ?_
        refine X_ld rfl rfl rfl rfl ?_
        refine X_scall l_X11_X11_valueAt (c_valueAt hG (d + 1) ) rfl rfl rfl (Nat.le_of_ble_eq_true rfl) (Nat.le_of_ble_eq_true rfl) (Nat.le_refl _) (Nat.le_of_ble_eq_true rfl) (Nat.le_of_ble_eq_true rfl) ?_
        refine X_mcall l_X11_X11_get (c_get hG (d + 1) w hw hw9 (75 + 5 * l + j) (by omega) (m_valueAt rfl hx)) rfl rfl rfl rfl (Nat.le_of_ble_eq_true rfl) (Nat.le_of_ble_eq_true rfl) (Nat.le_refl _) (Nat.le_of_ble_eq_true rfl) (Nat.le_of_ble_eq_true rfl) ?_
        refine X_max lmax_X11 rfl (by omega) (Nat.le_of_ble_eq_true rfl) (Nat.le_of_ble_eq_true rfl) (Nat.le_of_ble_eq_true rfl) ?_
        refine X_goto rfl ?_
        refine X_st rfl rfl rfl ?_
        refine X_iinc rfl rfl rfl ?_
        refine X_goto rfl ?_
        refine X_loc (L' := [some (.ref 275), some (.int x), some (.int (b2 true)), some (.int (s_ext (S w) j true (l + 1))), some (.int (nI (l + 1)))]) ⟨rfl, rfl, rfl, rfl, congrArg Value.int (m_inc rfl).symm, trivial⟩ ?_
        exact ih (l + 1) (by omega)
    refine X_ld rfl rfl rfl rfl ?_
    refine X_push (v := .int 1) rfl (by decide +kernel) ?_
    refine X_mcall l_X11_X11_get (c_get hG (d + 1) w hw hw9 1 (by omega) (show (1 : Int32) = nI 1 from rfl)) rfl rfl rfl rfl (Nat.le_of_ble_eq_true rfl) (Nat.le_of_ble_eq_true rfl) (Nat.le_refl _) (Nat.le_of_ble_eq_true rfl) (Nat.le_of_ble_eq_true rfl) ?_
    refine X_if_ne rfl (fun c5 => ?_) (fun c5 => ?_)
    · refine X_ld rfl rfl rfl rfl ?_
      refine X_push (v := .int 0) rfl (by decide +kernel) ?_
      refine X_ld rfl rfl rfl rfl ?_
      refine X_scall l_X11_X11_valueAt (c_valueAt hG (d + 1) ) rfl rfl rfl (Nat.le_of_ble_eq_true rfl) (Nat.le_of_ble_eq_true rfl) (Nat.le_refl _) (Nat.le_of_ble_eq_true rfl) (Nat.le_of_ble_eq_true rfl) ?_
      refine X_mcall l_X11_X11_get (c_get hG (d + 1) w hw hw9 (75 + 5 * 0 + j) (by omega) (m_valueAt (show (0 : Int32) = nI 0 from rfl) hx)) rfl rfl rfl rfl (Nat.le_of_ble_eq_true rfl) (Nat.le_of_ble_eq_true rfl) (Nat.le_refl _) (Nat.le_of_ble_eq_true rfl) (Nat.le_of_ble_eq_true rfl) ?_
      refine X_st rfl rfl rfl ?_
      refine X_push (v := .int 0) rfl (by decide +kernel) ?_
      refine X_st rfl rfl rfl ?_
      refine X_loc (L' := [some (.ref 275), some (.int x), some (.int (b2 true)), some (.int (s_ext (S w) j true 0)), some (.int (nI 0))]) ⟨rfl, rfl, rfl, congrArg Value.int (if_neg c5), rfl, trivial⟩ ?_
      refine loop ?_ _ 0 (Nat.zero_add _)
      refine X_ld rfl rfl rfl rfl ?_
      exact X_iret rfl rfl ⟨rfl, rfl⟩ (Nat.le_of_ble_eq_true rfl) (Nat.le_of_ble_eq_true rfl)
    · refine X_push (v := .int 0) rfl (by decide +kernel) ?_
      refine X_goto rfl ?_
      refine X_st rfl rfl rfl ?_
      refine X_push (v := .int 0) rfl (by decide +kernel) ?_
      refine X_st rfl rfl rfl ?_
      refine X_loc (L' := [some (.ref 275), some (.int x), some (.int (b2 true)), some (.int (s_ext (S w) j true 0)), some (.int (nI 0))]) ⟨rfl, rfl, rfl, congrArg Value.int (if_pos c5), rfl, trivial⟩ ?_
      refine loop ?_ _ 0 (Nat.zero_add _)
      refine X_ld rfl rfl rfl rfl ?_
      exact X_iret rfl rfl ⟨rfl, rfl⟩ (Nat.le_of_ble_eq_true rfl) (Nat.le_of_ble_eq_true rfl)
  | false =>
    have loop : x_W G mX11_extreme (x_Z G (d + 2) 0 0 ad0 nb0 (x_Ret (mset B I T S rd tx gv pl) (.int (s_ext (S w) j false q))) x_noX) (mset B I T S rd tx gv pl) 0 0 77 [some (.ref 275), some (.int x), some (.int (b2 false)), some (.int (s_ext (S w) j false q)), some (.int (nI q))] [] → ∀ (f9 l : Nat), l + f9 = q → x_W G mX11_extreme (x_Z G (d + 2) 0 0 ad0 nb0 (x_Ret (mset B I T S rd tx gv pl) (.int (s_ext (S w) j false q))) x_noX) (mset B I T S rd tx gv pl) 0 0 25 [some (.ref 275), some (.int x), some (.int (b2 false)), some (.int (s_ext (S w) j false l)), some (.int (nI l))] [] := by
      intro K f9
      induction f9 with
      | zero =>
        intro l e0 
        obtain e9 : l = q := by omega
        subst l
        refine X_ld rfl rfl rfl rfl ?_
        refine X_ld rfl rfl rfl rfl ?_
        refine X_push (v := .int 1) rfl (by decide +kernel) ?_
        refine X_mcall l_X11_X11_get (c_get hG (d + 1) w hw hw9 1 (by omega) (show (1 : Int32) = nI 1 from rfl)) rfl rfl rfl rfl (Nat.le_of_ble_eq_true rfl) (Nat.le_of_ble_eq_true rfl) (Nat.le_refl _) (Nat.le_of_ble_eq_true rfl) (Nat.le_of_ble_eq_true rfl) ?_
        refine X_icmp_ge rfl (fun c32 => ?_) (fun c32 => absurd ((n_le hq rfl (by omega) (by omega)).mpr (by omega)) c32)
        exact K
      | succ f9 ih =>
        intro l e0 
        refine X_ld rfl rfl rfl rfl ?_
        refine X_ld rfl rfl rfl rfl ?_
        refine X_push (v := .int 1) rfl (by decide +kernel) ?_
        refine X_mcall l_X11_X11_get (c_get hG (d + 1) w hw hw9 1 (by omega) (show (1 : Int32) = nI 1 from rfl)) rfl rfl rfl rfl (Nat.le_of_ble_eq_true rfl) (Nat.le_of_ble_eq_true rfl) (Nat.le_refl _) (Nat.le_of_ble_eq_true rfl) (Nat.le_of_ble_eq_true rfl) ?_
        refine X_icmp_ge rfl (fun c32 => absurd ((n_le hq rfl (by omega) (by omega)).mp c32) (by omega)) (fun c32 => ?_)
        refine X_ld rfl rfl rfl rfl ?_
        refine X_if_eq rfl (fun c36 => ?_) (fun c36 => absurd rfl c36)
        refine X_ld rfl rfl rfl rfl ?_
        refine X_ld rfl rfl rfl rfl ?_
        refine X_ld rfl rfl rfl rfl ?_
        refine X_ld rfl rfl rfl rfl ?_
        refine X_scall l_X11_X11_valueAt (c_valueAt hG (d + 1) ) rfl rfl rfl (Nat.le_of_ble_eq_true rfl) (Nat.le_of_ble_eq_true rfl) (Nat.le_refl _) (Nat.le_of_ble_eq_true rfl) (Nat.le_of_ble_eq_true rfl) ?_
        refine X_mcall l_X11_X11_get (c_get hG (d + 1) w hw hw9 (75 + 5 * l + j) (by omega) (m_valueAt rfl hx)) rfl rfl rfl rfl (Nat.le_of_ble_eq_true rfl) (Nat.le_of_ble_eq_true rfl) (Nat.le_refl _) (Nat.le_of_ble_eq_true rfl) (Nat.le_of_ble_eq_true rfl) ?_
        refine X_min lmin_X11 rfl (by omega) (Nat.le_of_ble_eq_true rfl) (Nat.le_of_ble_eq_true rfl) (Nat.le_of_ble_eq_true rfl) ?_
        refine X_st rfl rfl rfl ?_
        refine X_iinc rfl rfl rfl ?_
        refine X_goto rfl ?_
        refine X_loc (L' := [some (.ref 275), some (.int x), some (.int (b2 false)), some (.int (s_ext (S w) j false (l + 1))), some (.int (nI (l + 1)))]) ⟨rfl, rfl, rfl, rfl, congrArg Value.int (m_inc rfl).symm, trivial⟩ ?_
        exact ih (l + 1) (by omega)
    refine X_ld rfl rfl rfl rfl ?_
    refine X_push (v := .int 1) rfl (by decide +kernel) ?_
    refine X_mcall l_X11_X11_get (c_get hG (d + 1) w hw hw9 1 (by omega) (show (1 : Int32) = nI 1 from rfl)) rfl rfl rfl rfl (Nat.le_of_ble_eq_true rfl) (Nat.le_of_ble_eq_true rfl) (Nat.le_refl _) (Nat.le_of_ble_eq_true rfl) (Nat.le_of_ble_eq_true rfl) ?_
    refine X_if_ne rfl (fun c5 => ?_) (fun c5 => ?_)
    · refine X_ld rfl rfl rfl rfl ?_
      refine X_push (v := .int 0) rfl (by decide +kernel) ?_
      refine X_ld rfl rfl rfl rfl ?_
      refine X_scall l_X11_X11_valueAt (c_valueAt hG (d + 1) ) rfl rfl rfl (Nat.le_of_ble_eq_true rfl) (Nat.le_of_ble_eq_true rfl) (Nat.le_refl _) (Nat.le_of_ble_eq_true rfl) (Nat.le_of_ble_eq_true rfl) ?_
      refine X_mcall l_X11_X11_get (c_get hG (d + 1) w hw hw9 (75 + 5 * 0 + j) (by omega) (m_valueAt (show (0 : Int32) = nI 0 from rfl) hx)) rfl rfl rfl rfl (Nat.le_of_ble_eq_true rfl) (Nat.le_of_ble_eq_true rfl) (Nat.le_refl _) (Nat.le_of_ble_eq_true rfl) (Nat.le_of_ble_eq_true rfl) ?_
      refine X_st rfl rfl rfl ?_
      refine X_push (v := .int 0) rfl (by decide +kernel) ?_
      refine X_st rfl rfl rfl ?_
      refine X_loc (L' := [some (.ref 275), some (.int x), some (.int (b2 false)), some (.int (s_ext (S w) j false 0)), some (.int (nI 0))]) ⟨rfl, rfl, rfl, congrArg Value.int (if_neg c5), rfl, trivial⟩ ?_
      refine loop ?_ _ 0 (Nat.zero_add _)
      refine X_ld rfl rfl rfl rfl ?_
      exact X_iret rfl rfl ⟨rfl, rfl⟩ (Nat.le_of_ble_eq_true rfl) (Nat.le_of_ble_eq_true rfl)
    · refine X_push (v := .int 0) rfl (by decide +kernel) ?_
      refine X_goto rfl ?_
      refine X_st rfl rfl rfl ?_
      refine X_push (v := .int 0) rfl (by decide +kernel) ?_
      refine X_st rfl rfl rfl ?_
      refine X_loc (L' := [some (.ref 275), some (.int x), some (.int (b2 false)), some (.int (s_ext (S w) j false 0)), some (.int (nI 0))]) ⟨rfl, rfl, rfl, congrArg Value.int (if_pos c5), rfl, trivial⟩ ?_
      refine loop ?_ _ 0 (Nat.zero_add _)
      refine X_ld rfl rfl rfl rfl ?_
      exact X_iret rfl rfl ⟨rfl, rfl⟩ (Nat.le_of_ble_eq_true rfl) (Nat.le_of_ble_eq_true rfl)
/-- two rows that agree but for the columns and what was seen -/
def s_agV (c c' : Nat → Int32) : Prop := ∀ k, (k < 8 ∨ 75 ≤ k) → c k = c' k
theorem s_agV_upd {c c' : Nat → Int32} {k : Nat} {v : Int32} (h : s_agV c c') (hk : 8 ≤ k ∧ k < 75) : s_agV c (upd c' k v) := fun i hi => by
  rw [updI_ne (by omega)]; exact h i hi
theorem s_agV.new {c c' : Nat → Int32} (h : s_agV c c') {j l : Nat} : ∀ m, s_new c j l m = s_new c' j l m
  | 0 => rfl
  | m + 1 => by
    show (s_new c j l m && !decide (s_val c m j = s_val c l j)) = (s_new c' j l m && !decide (s_val c' m j = s_val c' l j))
    rw [s_agV.new h m, show s_val c m j = s_val c' m j from h _ (by omega), show s_val c l j = s_val c' l j from h _ (by omega)]
theorem s_agV.unl {c c' : Nat → Int32} (h : s_agV c c') {j : Nat} : ∀ l, s_unl c j l = s_unl c' j l
  | 0 => rfl
  | l + 1 => by
    show s_unl c j l + (bif s_new c j l l then 1 else 0) = s_unl c' j l + (bif s_new c' j l l then 1 else 0)
    rw [s_agV.unl h l, h.new]
theorem s_agV.ext {c c' : Nat → Int32} (h : s_agV c c') {j : Nat} {z : Bool} : ∀ l, s_ext c j z l = s_ext c' j z l
  | 0 => by
    show (if c 1 = 0 then 0 else s_val c 0 j) = (if c' 1 = 0 then 0 else s_val c' 0 j)
    rw [h 1 (by omega), show s_val c 0 j = s_val c' 0 j from h _ (by omega)]
  | l + 1 => by
    show (bif z then x_max (s_ext c j z l) (s_val c l j) else x_min (s_ext c j z l) (s_val c l j)) = (bif z then x_max (s_ext c' j z l) (s_val c' l j) else x_min (s_ext c' j z l) (s_val c' l j))
    rw [s_agV.ext h l, show s_val c l j = s_val c' l j from h _ (by omega)]
def s_look1 (c e : Nat → Int32) (q j : Nat) : Nat → Int32 :=
  upd (upd (upd e (10 + 13 * j + 10) (s_unl c j q)) (10 + 13 * j + 11) (s_ext c j false q)) (10 + 13 * j + 12) (s_ext c j true q)
/-- the statistics of the first columns are taken -/
def s_look (c : Nat → Int32) (q : Nat) : Nat → Nat → Int32
  | 0 => upd c 8 (c 1)
  | j + 1 => s_look1 c (s_look c q j) q j
theorem s_look_ag {c : Nat → Int32} {q : Nat} : ∀ m, m ≤ 5 → s_agV c (s_look c q m)
  | 0, _ => s_agV_upd (fun _ _ => rfl) (by omega)
  | m + 1, hm => s_agV_upd (s_agV_upd (s_agV_upd (s_look_ag m (by omega)) (by omega)) (by omega)) (by omega)
theorem c_looks {G : XE} (hG : x_Kn G) {B : XH} {I : Nat → Int32} {T : Int64} {S : Nat → Nat → Int32} {rd tx gv pl : Nat → Int32} (d : Nat) (w : Nat) (hw : I 3 = nI w) (hw9 : w < 9) (m : Nat) (hcm : S w 0 = nI m) (hm : m ≤ 5) (q : Nat) (hq : S w 1 = nI q) (hq40 : q ≤ 40) : x_M G mX11_looks (d + 3) 0 0 [.ref 275] (mset B I T S rd tx gv pl) (x_RetV (mset B I T (updR S w (s_look (S w) q m)) rd tx gv pl)) x_noX := by
  refine X_M hG okX11_looks rfl (L := [some (.ref 275), none]) rfl (Nat.le_of_ble_eq_true rfl) (fun ad0 nb0 => ?_)
  have loop : x_W G mX11_looks (x_Z G (d + 3) 0 0 ad0 nb0 (x_RetV (mset B I T (updR S w (s_look (S w) q m)) rd tx gv pl)) x_noX) (mset B I T (updR S w (s_look (S w) q m)) rd tx gv pl) 0 0 75 [some (.ref 275), some (.int (nI m))] [] → ∀ (f9 k : Nat), k + f9 = m → x_W G mX11_looks (x_Z G (d + 3) 0 0 ad0 nb0 (x_RetV (mset B I T (updR S w (s_look (S w) q m)) rd tx gv pl)) x_noX) (mset B I T (updR S w (s_look (S w) q k)) rd tx gv pl) 0 0 13 [some (.ref 275), some (.int (nI k))] [] := by
    intro K f9
    induction f9 with
    | zero =>
      intro k e0 
      obtain e9 : k = m := by omega
      subst k
      refine X_rowN (fun S1 e1 f1 => ?_)
      have a1 : s_agV (S w) (S1 w) := by rw [e1]; exact s_look_ag _ (by omega)
      refine X_ld rfl rfl rfl rfl ?_
      refine X_ld rfl rfl rfl rfl ?_
      refine X_push (v := .int 0) rfl (by decide +kernel) ?_
      refine X_mcall l_X11_X11_get (c_get hG (d + 2) w hw hw9 0 (by omega) (show (0 : Int32) = nI 0 from rfl)) rfl rfl rfl rfl (Nat.le_of_ble_eq_true rfl) (Nat.le_of_ble_eq_true rfl) (Nat.le_refl _) (Nat.le_of_ble_eq_true rfl) (Nat.le_of_ble_eq_true rfl) ?_
      refine X_icmp_ge rfl (fun c19 => ?_) (fun c19 => absurd ((n_le ((a1 0 (by omega)).symm.trans hcm) rfl (by omega) (by omega)).mpr (by omega)) c19)
      subst f1
      exact K
    | succ f9 ih =>
      intro k e0 
      refine X_rowN (fun S1 e1 f1 => ?_)
      have a1 : s_agV (S w) (S1 w) := by rw [e1]; exact s_look_ag _ (by omega)
      refine X_ld rfl rfl rfl rfl ?_
      refine X_ld rfl rfl rfl rfl ?_
      refine X_push (v := .int 0) rfl (by decide +kernel) ?_
      refine X_mcall l_X11_X11_get (c_get hG (d + 2) w hw hw9 0 (by omega) (show (0 : Int32) = nI 0 from rfl)) rfl rfl rfl rfl (Nat.le_of_ble_eq_true rfl) (Nat.le_of_ble_eq_true rfl) (Nat.le_refl _) (Nat.le_of_ble_eq_true rfl) (Nat.le_of_ble_eq_true rfl) ?_
      refine X_icmp_ge rfl (fun c19 => absurd ((n_le ((a1 0 (by omega)).symm.trans hcm) rfl (by omega) (by omega)).mp c19) (by omega)) (fun c19 => ?_)
      refine X_ld rfl rfl rfl rfl ?_
      refine X_ld rfl rfl rfl rfl ?_
      refine X_push (v := .int 10) rfl (by decide +kernel) ?_
      refine X_scall l_X11_X11_columnAt (c_columnAt hG (d + 2) ) rfl rfl rfl (Nat.le_of_ble_eq_true rfl) (Nat.le_of_ble_eq_true rfl) (Nat.le_refl _) (Nat.le_of_ble_eq_true rfl) (Nat.le_of_ble_eq_true rfl) ?_
      refine X_ld rfl rfl rfl rfl ?_
      refine X_ld rfl rfl rfl rfl ?_
      refine X_mcall l_X11_X11_unlike (c_unlike hG d w hw hw9 q ((a1 1 (by omega)).symm.trans hq) hq40 k (by omega) rfl) rfl rfl rfl rfl (Nat.le_of_ble_eq_true rfl) (Nat.le_of_ble_eq_true rfl) (Nat.le_refl _) (Nat.le_of_ble_eq_true rfl) (Nat.le_of_ble_eq_true rfl) ?_
      refine X_mcallv l_X11_X11_put (c_put hG (d + 2) w hw hw9 (10 + 13 * k + 10) (by omega) (m_columnAt rfl (show (10 : Int32) = nI 10 from rfl))) rfl rfl rfl rfl (Nat.le_of_ble_eq_true rfl) (Nat.le_of_ble_eq_true rfl) (Nat.le_refl _) (Nat.le_of_ble_eq_true rfl) (Nat.le_of_ble_eq_true rfl) ?_
      refine X_row f1 (upd (s_look (S w) q k) (10 + 13 * k + 10) (s_unl (S w) k q)) (by rw [a1.unl]) (fun S2 e2 f2 => ?_)
      have a2 : s_agV (S w) (S2 w) := by rw [e2]; exact s_agV_upd (by rw [← e1]; exact a1) (by omega)
      refine X_ld rfl rfl rfl rfl ?_
      refine X_ld rfl rfl rfl rfl ?_
      refine X_push (v := .int 11) rfl (by decide +kernel) ?_
      refine X_scall l_X11_X11_columnAt (c_columnAt hG (d + 2) ) rfl rfl rfl (Nat.le_of_ble_eq_true rfl) (Nat.le_of_ble_eq_true rfl) (Nat.le_refl _) (Nat.le_of_ble_eq_true rfl) (Nat.le_of_ble_eq_true rfl) ?_
      refine X_ld rfl rfl rfl rfl ?_
      refine X_ld rfl rfl rfl rfl ?_
      refine X_push (v := .int 0) rfl (by decide +kernel) ?_
      refine X_mcall l_X11_X11_extreme (c_extreme hG d w hw hw9 q ((a2 1 (by omega)).symm.trans hq) hq40 k (by omega) false rfl) rfl rfl rfl rfl (Nat.le_of_ble_eq_true rfl) (Nat.le_of_ble_eq_true rfl) (Nat.le_refl _) (Nat.le_of_ble_eq_true rfl) (Nat.le_of_ble_eq_true rfl) ?_
      refine X_mcallv l_X11_X11_put (c_put hG (d + 2) w hw hw9 (10 + 13 * k + 11) (by omega) (m_columnAt rfl (show (11 : Int32) = nI 11 from rfl))) rfl rfl rfl rfl (Nat.le_of_ble_eq_true rfl) (Nat.le_of_ble_eq_true rfl) (Nat.le_refl _) (Nat.le_of_ble_eq_true rfl) (Nat.le_of_ble_eq_true rfl) ?_
      refine X_row f2 (upd (upd (s_look (S w) q k) (10 + 13 * k + 10) (s_unl (S w) k q)) (10 + 13 * k + 11) (s_ext (S w) k false q)) (by rw [a2.ext]) (fun S3 e3 f3 => ?_)
      have a3 : s_agV (S w) (S3 w) := by rw [e3]; exact s_agV_upd (by rw [← e2]; exact a2) (by omega)
      refine X_ld rfl rfl rfl rfl ?_
      refine X_ld rfl rfl rfl rfl ?_
      refine X_push (v := .int 12) rfl (by decide +kernel) ?_
      refine X_scall l_X11_X11_columnAt (c_columnAt hG (d + 2) ) rfl rfl rfl (Nat.le_of_ble_eq_true rfl) (Nat.le_of_ble_eq_true rfl) (Nat.le_refl _) (Nat.le_of_ble_eq_true rfl) (Nat.le_of_ble_eq_true rfl) ?_
      refine X_ld rfl rfl rfl rfl ?_
      refine X_ld rfl rfl rfl rfl ?_
      refine X_push (v := .int 1) rfl (by decide +kernel) ?_
      refine X_mcall l_X11_X11_extreme (c_extreme hG d w hw hw9 q ((a3 1 (by omega)).symm.trans hq) hq40 k (by omega) true rfl) rfl rfl rfl rfl (Nat.le_of_ble_eq_true rfl) (Nat.le_of_ble_eq_true rfl) (Nat.le_refl _) (Nat.le_of_ble_eq_true rfl) (Nat.le_of_ble_eq_true rfl) ?_
      refine X_mcallv l_X11_X11_put (c_put hG (d + 2) w hw hw9 (10 + 13 * k + 12) (by omega) (m_columnAt rfl (show (12 : Int32) = nI 12 from rfl))) rfl rfl rfl rfl (Nat.le_of_ble_eq_true rfl) (Nat.le_of_ble_eq_true rfl) (Nat.le_refl _) (Nat.le_of_ble_eq_true rfl) (Nat.le_of_ble_eq_true rfl) ?_
      refine X_row f3 (s_look (S w) q (k + 1)) (by rw [← a3.ext]; rfl) (fun S4 e4 f4 => ?_)
      subst f4
      refine X_iinc rfl rfl rfl ?_
      refine X_goto rfl ?_
      refine X_loc (L' := [some (.ref 275), some (.int (nI (k + 1)))]) ⟨rfl, congrArg Value.int (m_inc rfl).symm, trivial⟩ ?_
      exact ih (k + 1) (by omega)
  refine X_ld rfl rfl rfl rfl ?_
  refine X_push (v := .int 8) rfl (by decide +kernel) ?_
  refine X_ld rfl rfl rfl rfl ?_
  refine X_push (v := .int 1) rfl (by decide +kernel) ?_
  refine X_mcall l_X11_X11_get (c_get hG (d + 2) w hw hw9 1 (by omega) (show (1 : Int32) = nI 1 from rfl)) rfl rfl rfl rfl (Nat.le_of_ble_eq_true rfl) (Nat.le_of_ble_eq_true rfl) (Nat.le_refl _) (Nat.le_of_ble_eq_true rfl) (Nat.le_of_ble_eq_true rfl) ?_
  refine X_mcallv l_X11_X11_put (c_put hG (d + 2) w hw hw9 8 (by omega) (show (8 : Int32) = nI 8 from rfl)) rfl rfl rfl rfl (Nat.le_of_ble_eq_true rfl) (Nat.le_of_ble_eq_true rfl) (Nat.le_refl _) (Nat.le_of_ble_eq_true rfl) (Nat.le_of_ble_eq_true rfl) ?_
  refine X_rowC (S := S) (S0 := S) (c := S w) updR_self (s_look (S w) q 0) rfl (fun S1 e1 f1 => ?_)
  subst f1
  refine X_push (v := .int 0) rfl (by decide +kernel) ?_
  refine X_st rfl rfl rfl ?_
  refine X_loc (L' := [some (.ref 275), some (.int (nI 0))]) ⟨rfl, rfl, trivial⟩ ?_
  refine loop ?_ _ 0 (Nat.zero_add _)
  exact X_vret rfl rfl ⟨rfl, rfl⟩ (Nat.le_of_ble_eq_true rfl) (Nat.le_of_ble_eq_true rfl)
def s_ana (c : Nat → Int32) : Nat → Int32 := upd (s_look c (s_lm c) (s_cm c)) 3 (c 3 + 1)
def a_analyze (c : Nat → Int32) : Int32 × Int32 × Option (Nat → Int32) := (0, c 3 + 1, some (s_ana c))
theorem c_analyze {G : XE} (hG : x_Kn G) {B : XH} {I : Nat → Int32} {T : Int64} {S : Nat → Nat → Int32} {rd tx gv : Nat → Int32} {P : Nat → Bool} (d : Nat) (w : Nat) (hw : I 3 = nI w) (hw9 : w < 9) (u : Nat) (hu : I 4 = nI u) (hu8 : u ≤ 8) (hwf : s_wf (S w)) : x_M G mX11_analyze (d + 4) 0 0 [.ref 275] (mset B I T S rd tx gv (fun i => b2 (P i))) (x_RetM B I T S rd tx w u (a_analyze (S w))) x_noX := by
  refine X_M hG okX11_analyze rfl (L := [some (.ref 275)]) rfl (Nat.le_of_ble_eq_true rfl) (fun ad0 nb0 => ?_)
  have hcm5 := hwf.cmE.2
  have hlm40 := hwf.lmE.2
  have hsm6 := hwf.smE.2
  refine X_ld rfl rfl rfl rfl ?_
  refine X_push (v := .int 0) rfl (by decide +kernel) ?_
  refine X_mput f_X11_37 rfl rfl ?_
  refine X_ld rfl rfl rfl rfl ?_
  refine X_mcallv l_X11_X11_change (c_change hG (d + 3) w (updI_I3 hw) hw9 u ((updI_ne (by decide)).trans hu) hu8) rfl rfl rfl rfl (Nat.le_of_ble_eq_true rfl) (Nat.le_of_ble_eq_true rfl) (Nat.le_refl _) (Nat.le_of_ble_eq_true rfl) (Nat.le_of_ble_eq_true rfl) ?_
  refine X_rowN (fun S1 e1 f1 => ?_)
  refine X_ld rfl rfl rfl rfl ?_
  refine X_mcallv l_X11_X11_looks (c_looks hG d (s_nx w) s_ch3 s_nx_lt (s_cm (S w)) ((congrFun e1 0).trans hwf.cmE.1) hcm5 (s_lm (S w)) ((congrFun e1 1).trans hwf.lmE.1) hlm40) rfl rfl rfl rfl (Nat.le_of_ble_eq_true rfl) (Nat.le_of_ble_eq_true rfl) (Nat.le_refl _) (Nat.le_of_ble_eq_true rfl) (Nat.le_of_ble_eq_true rfl) ?_
  refine X_rowC f1 (s_look (S w) (s_lm (S w)) (s_cm (S w))) (by rw [e1]) (fun S2 e2 f2 => ?_)
  refine X_ld rfl rfl rfl rfl ?_
  refine X_push (v := .int 3) rfl (by decide +kernel) ?_
  refine X_push (v := .int 1) rfl (by decide +kernel) ?_
  refine X_mcallv l_X11_X11_add (c_add hG (d + 3) (s_nx w) s_ch3 s_nx_lt 3 (by omega) (show (3 : Int32) = nI 3 from rfl)) rfl rfl rfl rfl (Nat.le_of_ble_eq_true rfl) (Nat.le_of_ble_eq_true rfl) (Nat.le_refl _) (Nat.le_of_ble_eq_true rfl) (Nat.le_of_ble_eq_true rfl) ?_
  refine X_row f2 (s_ana (S w)) (by rw [e2, ← s_look_ag _ hcm5 3 (by omega)]; rfl) (fun S3 e3 f3 => ?_)
  refine X_ld rfl rfl rfl rfl ?_
  refine X_push (v := .int 3) rfl (by decide +kernel) ?_
  refine X_mcall l_X11_X11_get (c_get hG (d + 3) (s_nx w) s_ch3 s_nx_lt 3 (by omega) (show (3 : Int32) = nI 3 from rfl)) rfl rfl rfl rfl (Nat.le_of_ble_eq_true rfl) (Nat.le_of_ble_eq_true rfl) (Nat.le_refl _) (Nat.le_of_ble_eq_true rfl) (Nat.le_of_ble_eq_true rfl) ?_
  refine X_stk (congrArg (fun q => Value.int q :: _) (show S3 (s_nx w) 3 = S w 3 + 1 by rw [e3]; exact updI_eq)) ?_
  exact X_iret rfl rfl (a_retM1 rfl f3) (Nat.le_of_ble_eq_true rfl) (Nat.le_of_ble_eq_true rfl)
def s_unI (I : Nat → Int32) (w u : Nat) : Nat → Int32 := if u = 0 then upd I 0 0 else upd (upd (upd I 0 0) 4 (nI (u - 1))) 3 (nI ((w + 8) % 9))
def a_undo (u : Nat) : Int32 := if u = 0 then -1 else nI (u - 1)
theorem c_undo {G : XE} (hG : x_Kn G) {B : XH} {I : Nat → Int32} {T : Int64} {S : Nat → Nat → Int32} {rd tx gv pl : Nat → Int32} (d : Nat) (w : Nat) (hw : I 3 = nI w) (hw9 : w < 9) (u : Nat) (hu : I 4 = nI u) (hu8 : u ≤ 8) : x_M G mX11_undo d 0 0 [.ref 275] (mset B I T S rd tx gv pl) (x_Ret (mset B (s_unI I w u) T S rd tx gv pl) (.int (a_undo u))) x_noX := by
  refine X_M hG okX11_undo rfl (L := [some (.ref 275)]) rfl (Nat.le_of_ble_eq_true rfl) (fun ad0 nb0 => ?_)
  refine X_ld rfl rfl rfl rfl ?_
  refine X_push (v := .int 0) rfl (by decide +kernel) ?_
  refine X_mput f_X11_37 rfl rfl ?_
  refine X_ld rfl rfl rfl rfl ?_
  refine X_get f_X11_43 rfl rfl rfl ?_
  refine X_if_ne rfl (fun c9 => ?_) (fun c9 => ?_)
  · have n9 := mt (n_eq (b := 0) ((updI_ne (by decide)).trans hu) (show (0 : Int32) = nI 0 from rfl) (by omega) (by omega)).mpr c9
    refine X_ld rfl rfl rfl rfl ?_
    refine X_dup rfl rfl ?_
    refine X_get f_X11_43 rfl rfl rfl ?_
    refine X_push (v := .int 1) rfl (by decide +kernel) ?_
    refine X_bin rfl rfl ?_
    refine X_mput f_X11_43 rfl rfl ?_
    refine X_heap (N' := mset B (upd (upd I 0 0) 4 (nI (u - 1))) T S rd tx gv pl) (congrArg (fun q => mset B (upd (upd I 0 0) 4 q) T S rd tx gv pl) (m_subc (a := u) (b := 1) (by omega) ((updI_ne (by decide)).trans hu))) ?_
    refine X_ld rfl rfl rfl rfl ?_
    refine X_ld rfl rfl rfl rfl ?_
    refine X_get f_X11_40 rfl rfl rfl ?_
    refine X_push (v := .int 9) rfl (by decide +kernel) ?_
    refine X_bin rfl rfl ?_
    refine X_push (v := .int 1) rfl (by decide +kernel) ?_
    refine X_bin rfl rfl ?_
    refine X_push (v := .int 9) rfl (by decide +kernel) ?_
    refine X_irem rfl (by decide) ?_
    refine X_mput f_X11_40 rfl rfl ?_
    refine X_heap (N' := mset B (upd (upd (upd I 0 0) 4 (nI (u - 1))) 3 (nI ((w + 8) % 9))) T S rd tx gv pl) (congrArg (fun q => mset B (upd (upd (upd I 0 0) 4 (nI (u - 1))) 3 q) T S rd tx gv pl) (m_rem (a := w + 8) (b := 9) (m_subc (a := w + 9) (b := 1) (by omega) (m_add (b := 9) ((updI_ne (by decide)).trans ((updI_ne (by decide)).trans hw)) rfl)) (by omega) (by decide) (by decide))) ?_
    refine X_ld rfl rfl rfl rfl ?_
    refine X_get f_X11_43 rfl rfl rfl ?_
    exact X_iret rfl rfl ⟨by unfold s_unI; rw [if_neg n9], by unfold a_undo; rw [if_neg n9, updI_ne (by decide), updI_eq]⟩ (Nat.le_of_ble_eq_true rfl) (Nat.le_of_ble_eq_true rfl)
  · have n9 := (n_eq (b := 0) ((updI_ne (by decide)).trans hu) (show (0 : Int32) = nI 0 from rfl) (by omega) (by omega)).mp c9
    refine X_push (v := .int (-1)) rfl (by decide +kernel) ?_
    exact X_iret rfl rfl ⟨by unfold s_unI; rw [if_pos n9], by unfold a_undo; rw [if_pos n9]⟩ (Nat.le_of_ble_eq_true rfl) (Nat.le_of_ble_eq_true rfl)
