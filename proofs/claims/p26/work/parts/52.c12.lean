/-! ===== the class: a run's plan ===== -/
theorem s_stc_rfl {e : Nat → Int32} : s_stc e e := fun _ _ => rfl
theorem s_stc_upd {e e' : Nat → Int32} {k : Nat} {v : Int32} (h : s_stc e e') (hk : ¬ (k = 0 ∨ k = 2 ∨ (4 ≤ k ∧ k ≤ 7) ∨ (10 ≤ k ∧ k < 75 ∧ (k - 10) % 13 ≤ 8) ∨ (275 ≤ k ∧ k < 455 ∧ ((k - 275) % 30 < 8 ∨ (17 ≤ (k - 275) % 30 ∧ (k - 275) % 30 < 21) ∨ 26 ≤ (k - 275) % 30)) ∨ 455 ≤ k)) : s_stc e (upd e' k v) := fun i hi => by
  rw [updI_ne (fun q => hk (by rw [← q]; exact hi))]
  exact h i hi
theorem s_stc_mkg {e gv : Nat → Int32} {s : Nat} (hs : s < 6) : s_stc e (s_mkg e gv s) := by
  unfold s_mkg
  by_cases h : s_fresh e s
  · rw [if_pos h]; exact s_stc_rfl
  · rw [if_neg h]
    exact s_stc_upd (s_stc_upd (s_stc_upd (s_stc_upd s_stc_rfl (by omega)) (by omega)) (by omega)) (by omega)
theorem s_stc_r1 {e gv : Nat → Int32} {s : Nat} (hs : s < 6) : s_stc e (s_r1 e gv s) := by
  unfold s_r1
  by_cases h : s_late e s
  · rw [if_pos h]; exact s_stc_mkg hs
  · rw [if_neg h]; exact s_stc_rfl
/-- the numbers of a Data behind the choice of a plan -/
def s_ckr (e c gv : Nat → Int32) (s : Nat) : Nat → Int32 := if s_late e s then (if s_fresh e s then c else s_kept c s (s_best e gv s (s_cm e) false) (s_cost e gv s (s_best e gv s (s_cm e) false) false) (c 3)) else c
/-- the choice -/
def s_ckv (e gv : Nat → Int32) (s : Nat) : Int32 := if s_keep e gv s then 2 * (s_st (s_mkg e gv s) s 14 + 1) + 1 else 2 * (s_best e gv s (s_cm e) true + 1)
theorem s_kept_ne {c : Nat → Int32} {s k : Nat} {p v w : Int32} (h : k ≠ 275 + 30 * s + 14 ∧ k ≠ 275 + 30 * s + 15 ∧ k ≠ 275 + 30 * s + 16 ∧ k ≠ 275 + 30 * s + 11) : s_kept c s p v w k = c k := by
  unfold s_kept
  rw [updI_ne h.2.2.2, updI_ne h.2.2.1, updI_ne h.2.1, updI_ne h.1]
theorem s_mkg_rel {e c gv : Nat → Int32} {s : Nat} (hwf : s_wf e) (hs : s < s_sm e) (hrel : s_rel e c) (hf : ¬ s_fresh e s) : s_rel (s_mkg e gv s) (s_kept c s (s_best e gv s (s_cm e) false) (s_cost e gv s (s_best e gv s (s_cm e) false) false) (c 3)) := by
  have hsm6 := hwf.smE.2
  have hcm5 := hwf.cmE.2
  have hlm := hwf.lmE.2
  have ha := (s_mkg_agr (c := e) (gv := gv) (s := s) (by omega)).F
  obtain ⟨⟨h1, h3, h8⟩, h4, h5, h6⟩ := hrel
  refine ⟨⟨(ha 1 (by omega)).symm.trans (h1.trans (s_kept_ne (by omega)).symm), (ha 3 (by omega)).symm.trans (h3.trans (s_kept_ne (by omega)).symm), (ha 8 (by omega)).symm.trans (h8.trans (s_kept_ne (by omega)).symm)⟩, fun j hj x hx1 hx2 => ?_, fun l hl j hj => ?_, fun q hq x hx => ?_⟩
  · rw [ha.cm] at hj
    exact (ha (10 + 13 * j + x) (by omega)).symm.trans ((h4 j hj x hx1 hx2).trans (s_kept_ne (k := 10 + 13 * j + x) (by omega)).symm)
  · rw [ha.cm] at hj
    rw [ha.lm] at hl
    exact (ha (75 + 5 * l + j) (by omega)).symm.trans ((h5 l hl j hj).trans (s_kept_ne (k := 75 + 5 * l + j) (by omega)).symm)
  · rw [ha.sm] at hq
    have e0 : s_mkg e gv s = upd (upd (upd (upd e (275 + 30 * s + 14) (s_best e gv s (s_cm e) false)) (275 + 30 * s + 15) (s_cost e gv s (s_best e gv s (s_cm e) false) false)) (275 + 30 * s + 16) (e 3)) (275 + 30 * s + 11) (s_st e s 11 + 1) := if_neg hf
    have e1 := h6 s hs 11 (by omega)
    show s_mkg e gv s (275 + 30 * q + x) = s_kept c s _ _ _ (275 + 30 * q + x)
    rw [e0]
    unfold s_kept
    by_cases c1 : 275 + 30 * q + x = 275 + 30 * s + 11
    · rw [c1, updI_eq, updI_eq]
      exact congrArg (· + 1) e1
    · rw [updI_ne c1, updI_ne c1]
      by_cases c2 : 275 + 30 * q + x = 275 + 30 * s + 16
      · rw [c2, updI_eq, updI_eq, h3]
      · rw [updI_ne c2, updI_ne c2]
        by_cases c3 : 275 + 30 * q + x = 275 + 30 * s + 15
        · rw [c3, updI_eq, updI_eq]
        · rw [updI_ne c3, updI_ne c3]
          by_cases c4 : 275 + 30 * q + x = 275 + 30 * s + 14
          · rw [c4, updI_eq, updI_eq]
          · rw [updI_ne c4, updI_ne c4]
            exact h6 q hq x hx
theorem s_ckr_rel {e c gv : Nat → Int32} {s : Nat} (hwf : s_wf e) (hs : s < s_sm e) (hrel : s_rel e c) : s_rel (s_r1 e gv s) (s_ckr e c gv s) := by
  unfold s_r1 s_ckr
  by_cases h1 : s_late e s
  · rw [if_pos h1, if_pos h1]
    by_cases h2 : s_fresh e s
    · rw [if_pos h2, show s_mkg e gv s = e from if_pos h2]; exact hrel
    · rw [if_neg h2]; exact s_mkg_rel hwf hs hrel h2
  · rw [if_neg h1, if_neg h1]; exact hrel
theorem g_none {gv : Nat → Int32} : g_ok false (fun _ => -1) gv := fun _ _ => ⟨rfl, fun h => by cases h⟩
theorem k_none : Cond.fieldLinkNest RX3 170 "PreparedPlans" "NONE_SEEN" "[I" "PreparedPlans" ∈ lw_tbl := List.mem_of_getElem? (i := 1163) (by decide +kernel)
theorem s_best_5 {e gv : Nat → Int32} {s : Nat} {z : Bool} (h : s_cm e ≤ 5) : s_best e gv s (s_cm e) z = -1 ∨ ∃ j, j < 5 ∧ s_best e gv s (s_cm e) z = nI j := by
  rcases s_best_ok (c := e) (gv := gv) (s := s) (z := z) (s_cm e) with h1 | ⟨j, h1, h2⟩
  · exact Or.inl h1
  · exact Or.inr ⟨j, by omega, h2⟩
theorem d_choosePlan {G : XE} (hG : x_Kn G) (hK : x_KS G) {B : XH} {J bf K tk ts : Nat → Int32} {tl : Int64} {tv : Nat → Int64} {su : Nat → Nat} {D : Nat → Nat → Int32} (d : Nat) (i : Nat) (hi : i < 10) {c : Nat → Int32} {e g gv : Nat → Int32} {vn : Nat} (hwf : s_wf e) (hst : st_at B e (su i)) (hrel : s_rel e c) (hvv : v_at B g vn) (hg : g_ok true g gv) (s : Nat) (hs : s < s_sm e) (hns : v_at B (fun _ => -1) 1) (hov : s_gen (s_mkg e gv s) s (s_st (s_mkg e gv s) s 15) ↔ s_st (s_mkg e gv s) s 15 * s_st (s_mkg e gv s) s 9 ≤ s_st (s_mkg e gv s) s 10) {x : Int32} (hx : x = nI s) : x_M G mX3_choosePlan (d + 7) 0 0 [.ref (75 + 20 * i), .int x, .ref vn] (cset B J bf K tk ts tl tv su (updR D i c)) (x_Ret (cset B J bf K tk ts tl tv su (updR D i (s_ckr e c gv s))) (.int (s_ckv e gv s))) x_noX := by
  refine X_M hG okX3_choosePlan rfl (L := [some (.ref (75 + 20 * i)), some (.int x), some (.ref vn), none, none]) rfl (Nat.le_of_ble_eq_true rfl) (fun ad0 nb0 => ?_)
  have hsm6 := hwf.smE.2
  have hcm5 := hwf.cmE.2
  obtain ⟨hso, a1, a2, a3, pp, hsB, -, -, hl3, hP⟩ := id hst
  obtain ⟨hft, ht325, -⟩ := s_kok_ft (hwf.kok hs)
  have hr8 : s_st e s 8 = c (275 + 30 * s + 8) := hrel.2.2.2 s hs 8 (by omega)
  have hr14 : s_st e s 14 = c (275 + 30 * s + 14) := hrel.2.2.2 s hs 14 (by omega)
  have hr16 : s_st e s 16 = c (275 + 30 * s + 16) := hrel.2.2.2 s hs 16 (by omega)
  have hag : s_agr e (s_r1 e gv s) := s_r1_agr (by omega)
  have hrel1 := s_ckr_rel (gv := gv) hwf hs hrel
  have hst1 : st_at B (s_r1 e gv s) (su i) := (s_stc_r1 (by omega)).st hcm5 hsm6 hst
  have hwf1 : s_wf (s_r1 e gv s) := hag.F.wf hwf (s_r1_kp hwf hs)
  have hs1 : s < s_sm (s_r1 e gv s) := by rw [hag.F.sm]; exact hs
  have K62 : s_late e s → x_W G mX3_choosePlan (x_Z G (d + 7) 0 0 ad0 nb0 (x_Ret (cset B J bf K tk ts tl tv su (updR D i (s_ckr e c gv s))) (.int (s_ckv e gv s))) x_noX) (cset B J bf K tk ts tl tv su (updR D i (s_ckr e c gv s))) 0 0 62 [some (.ref (75 + 20 * i)), some (.int x), some (.ref vn), some (.ref (75 + 20 * i + (8 + 2 * s))), none] [] := by
    intro hlate
    have em : s_r1 e gv s = s_mkg e gv s := if_pos hlate
    have hk9 : s_st (s_mkg e gv s) s 9 = s_st (s_ckr e c gv s) s 9 := by rw [← em]; exact hrel1.2.2.2 s hs1 9 (by omega)
    have hk10 : s_st (s_mkg e gv s) s 10 = s_st (s_ckr e c gv s) s 10 := by rw [← em]; exact hrel1.2.2.2 s hs1 10 (by omega)
    have hk14 : s_st (s_mkg e gv s) s 14 = s_st (s_ckr e c gv s) s 14 := by rw [← em]; exact hrel1.2.2.2 s hs1 14 (by omega)
    have hk15 : s_st (s_mkg e gv s) s 15 = s_st (s_ckr e c gv s) s 15 := by rw [← em]; exact hrel1.2.2.2 s hs1 15 (by omega)
    refine X_ld rfl rfl rfl rfl ?_
    refine X_vcall (r_u hi (by omega) updR_eq) l_X3_X9_prefersKeptPlan (u_prefersKeptPlan hG (d + 6) i hi s (by omega)) rfl rfl rfl rfl (Nat.le_of_ble_eq_true rfl) (Nat.le_of_ble_eq_true rfl) (by omega) (Nat.le_of_ble_eq_true rfl) (Nat.le_of_ble_eq_true rfl) ?_
    refine X_if_eq rfl (fun c66 => ?_) (fun c66 => ?_)
    · have h66 : ¬ (s_st (s_ckr e c gv s) s 15 * s_st (s_ckr e c gv s) s 9 ≤ s_st (s_ckr e c gv s) s 10) := fun q => bI_ne.mpr q c66
      refine X_push (v := .int 2) rfl (by decide +kernel) ?_
      refine X_ld rfl rfl rfl rfl ?_
      refine X_ld rfl rfl rfl rfl ?_
      refine X_ld rfl rfl rfl rfl ?_
      refine X_vcall (r_D hi updR_eq) l_X3_X3_bestPlan (d_bestPlan hG d i hi (e := (s_r1 e gv s)) (z := true) (gv := gv) hwf1 hst1 hrel1 hvv hg s hs1 hx) rfl rfl rfl rfl (Nat.le_of_ble_eq_true rfl) (Nat.le_of_ble_eq_true rfl) (by omega) (Nat.le_of_ble_eq_true rfl) (Nat.le_of_ble_eq_true rfl) ?_
      refine X_push (v := .int 1) rfl (by decide +kernel) ?_
      refine X_bin rfl rfl ?_
      refine X_bin rfl rfl ?_
      exact X_iret rfl rfl ⟨rfl, congrArg (fun q => some (Value.int q)) (show s_ckv e gv s = 2 * (s_best (s_r1 e gv s) gv s (s_cm (s_r1 e gv s)) true + 1) by unfold s_ckv; rw [if_neg (fun q => h66 (by rw [← hk15, ← hk9, ← hk10]; exact hov.mp q.2)), hag.F.cm, hag.best (hwf.kok hs) hcm5]).symm⟩ (Nat.le_of_ble_eq_true rfl) (Nat.le_of_ble_eq_true rfl)
    · have h66 : s_st (s_ckr e c gv s) s 15 * s_st (s_ckr e c gv s) s 9 ≤ s_st (s_ckr e c gv s) s 10 := bI_ne.mp c66
      refine X_push (v := .int 2) rfl (by decide +kernel) ?_
      refine X_ld rfl rfl rfl rfl ?_
      refine X_get f_X3_184 rfl (r_u hi (by omega) updR_eq) rfl ?_
      refine X_push (v := .int 1) rfl (by decide +kernel) ?_
      refine X_bin rfl rfl ?_
      refine X_bin rfl rfl ?_
      refine X_push (v := .int 1) rfl (by decide +kernel) ?_
      refine X_bin rfl rfl ?_
      exact X_iret rfl rfl ⟨rfl, congrArg (fun q => some (Value.int q)) (show s_ckv e gv s = 2 * (s_st (s_ckr e c gv s) s 14 + 1) + 1 by unfold s_ckv; rw [if_pos ⟨hlate, hov.mpr (by rw [← hk15, ← hk9, ← hk10] at h66; exact h66)⟩, hk14]).symm⟩ (Nat.le_of_ble_eq_true rfl) (Nat.le_of_ble_eq_true rfl)
  refine X_ld rfl rfl rfl rfl ?_
  refine X_get f_X3_28 rfl (r_D hi updR_eq) rfl ?_
  refine X_ld rfl rfl rfl rfl ?_
  refine X_uald hi updR_eq hx (by omega) (k := s) rfl ?_
  refine X_st rfl rfl rfl ?_
  refine X_ld rfl rfl rfl rfl ?_
  refine X_get f_X3_160 rfl (r_u hi (by omega) updR_eq) rfl ?_
  refine X_ld rfl rfl rfl rfl ?_
  refine X_get f_X3_32 rfl (r_D hi updR_eq) rfl ?_
  refine X_get f_X3_163 rfl (c_B hso hsB) rfl ?_
  refine X_icmp_lt rfl (fun c18 => ?_) (fun c18 => ?_)
  · have hnl : ¬ s_late e s := fun q => q (by rw [hr8]; exact c18)
    refine X_push (v := .int 2) rfl (by decide +kernel) ?_
    refine X_ld rfl rfl rfl rfl ?_
    refine X_ld rfl rfl rfl rfl ?_
    refine X_ld rfl rfl rfl rfl ?_
    refine X_vcall (r_D hi updR_eq) l_X3_X3_bestPlan (d_bestPlan hG d i hi (e := e) (z := true) (gv := gv) hwf hst hrel hvv hg s hs hx) rfl rfl rfl rfl (Nat.le_of_ble_eq_true rfl) (Nat.le_of_ble_eq_true rfl) (by omega) (Nat.le_of_ble_eq_true rfl) (Nat.le_of_ble_eq_true rfl) ?_
    refine X_push (v := .int 1) rfl (by decide +kernel) ?_
    refine X_bin rfl rfl ?_
    refine X_bin rfl rfl ?_
    exact X_iret rfl rfl ⟨by rw [show s_ckr e c gv s = c from if_neg hnl], congrArg (fun q => some (Value.int q)) (show s_ckv e gv s = 2 * (s_best e gv s (s_cm e) true + 1) by unfold s_ckv; rw [if_neg (s_keep_late hnl)]).symm⟩ (Nat.le_of_ble_eq_true rfl) (Nat.le_of_ble_eq_true rfl)
  · refine X_ld rfl rfl rfl rfl ?_
    refine X_ld rfl rfl rfl rfl ?_
    refine X_get f_X3_41 rfl (r_D hi updR_eq) rfl ?_
    refine X_vcall (r_u hi (by omega) updR_eq) l_X3_X9_keepsFreshPlan (u_keepsFreshPlan hG (d + 6) i hi s (by omega)) rfl rfl rfl rfl (Nat.le_of_ble_eq_true rfl) (Nat.le_of_ble_eq_true rfl) (by omega) (Nat.le_of_ble_eq_true rfl) (Nat.le_of_ble_eq_true rfl) ?_
    refine X_if_ne rfl (fun c29 => ?_) (fun c29 => ?_)
    · have h29 : ¬ s_st c s 14 = -2 ∧ s_st c s 16 = c 3 := bI_ne.mp c29
      have hlate : s_late e s := fun q => c18 (by rw [← hr8]; exact q)
      have hfr : s_fresh e s := ⟨by rw [hr14]; exact h29.1, by rw [hr16, hrel.1.2.1]; exact h29.2⟩
      refine X_heap (N' := cset B J bf K tk ts tl tv su (updR D i (s_ckr e c gv s))) (by rw [show s_ckr e c gv s = c from (if_pos hlate).trans (if_pos hfr)]) ?_
      refine X_loc (L' := [some (.ref (75 + 20 * i)), some (.int x), some (.ref vn), some (.ref (75 + 20 * i + (8 + 2 * s))), none]) ⟨rfl, rfl, rfl, rfl, trivial⟩ ?_
      exact K62 hlate
    · have h29 : ¬ (¬ s_st c s 14 = -2 ∧ s_st c s 16 = c 3) := fun q => bI_ne.mpr q c29
      refine X_ld rfl rfl rfl rfl ?_
      refine X_ld rfl rfl rfl rfl ?_
      refine X_getsN (v := .ref 1) k_none hK.1.2.2.2 (show (1 : Nat) < 64 by decide) rfl ?_
      refine X_vcall (r_D hi updR_eq) l_X3_X3_bestPlan (d_bestPlan hG d i hi (e := e) (z := false) (gv := gv) hwf hst hrel hns g_none s hs hx) rfl rfl rfl rfl (Nat.le_of_ble_eq_true rfl) (Nat.le_of_ble_eq_true rfl) (by omega) (Nat.le_of_ble_eq_true rfl) (Nat.le_of_ble_eq_true rfl) ?_
      refine X_st rfl rfl rfl ?_
      refine X_ld rfl rfl rfl rfl ?_
      refine X_ld rfl rfl rfl rfl ?_
      refine X_ld rfl rfl rfl rfl ?_
      refine X_ld rfl rfl rfl rfl ?_
      refine X_ld rfl rfl rfl rfl ?_
      refine X_getsN (v := .ref 1) k_none hK.1.2.2.2 (show (1 : Nat) < 64 by decide) rfl ?_
      refine X_vcall (r_D hi updR_eq) l_X3_X3_costOf (d_costOf hG (d + 1) i hi (z := false) (gv := gv) hwf hst hrel hns g_none s hs hx (s_best_5 hcm5)) rfl rfl rfl rfl (Nat.le_of_ble_eq_true rfl) (Nat.le_of_ble_eq_true rfl) (by omega) (Nat.le_of_ble_eq_true rfl) (Nat.le_of_ble_eq_true rfl) ?_
      refine X_ld rfl rfl rfl rfl ?_
      refine X_get f_X3_41 rfl (r_D hi updR_eq) rfl ?_
      refine X_vcallv (r_u hi (by omega) updR_eq) l_X3_X9_keep (u_keep hG (d + 6) i hi s (by omega)) rfl rfl rfl rfl (Nat.le_of_ble_eq_true rfl) (Nat.le_of_ble_eq_true rfl) (by omega) (Nat.le_of_ble_eq_true rfl) (Nat.le_of_ble_eq_true rfl) ?_
      have hlate : s_late e s := fun q => c18 (by rw [← hr8]; exact q)
      have hfr : ¬ s_fresh e s := fun q => h29 ⟨fun w => q.1 (hr14.trans w), hr16.symm.trans (q.2.trans hrel.1.2.1)⟩
      refine X_heap (N' := cset B J bf K tk ts tl tv su (updR D i (s_ckr e c gv s))) (by rw [show s_ckr e c gv s = _ from (if_pos hlate).trans (if_neg hfr)]) ?_
      refine X_loc (L' := [some (.ref (75 + 20 * i)), some (.int x), some (.ref vn), some (.ref (75 + 20 * i + (8 + 2 * s))), none]) ⟨rfl, rfl, rfl, rfl, trivial⟩ ?_
      exact K62 hlate

