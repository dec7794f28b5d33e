/-! ===== the class: a run ===== -/
theorem s_ce_cong {E F : Nat → Bool} : ∀ n, (∀ l, l < n → E l = F l) → s_ce E n = s_ce F n
  | 0, _ => rfl
  | n + 1, h => by
    show s_ce E n + _ = s_ce F n + _
    rw [s_ce_cong n (fun l hl => h l (by omega)), h n (by omega)]
theorem s_tru_g {e g gv : Nat → Int32} {k l : Nat} (hc : s_cmpok e k) (hg : g_ok true g gv) : s_tru e g k l = s_tru e gv k l := by
  unfold s_tru s_rhs
  rcases hc.2.2 with ⟨h3, -⟩ | ⟨h3, -⟩ | ⟨h3, h, hh, h4⟩
  · rw [if_pos h3, if_pos h3]
  · have h0 : ¬ s_cod e k 3 = 0 := by rw [h3]; decide
    rw [if_neg h0, if_neg h0, if_pos h3, if_pos h3]
  · have h0 : ¬ s_cod e k 3 = 0 := by rw [h3]; decide
    have h1 : ¬ s_cod e k 3 = 1 := by rw [h3]; decide
    have e4 : (s_cod e k 4).toNatClampNeg = h := by rw [h4]; exact nI_clamp (by omega)
    rw [if_neg h0, if_neg h0, if_neg h1, if_neg h1, e4, show g h = gv h from (hg h hh).1]
theorem s_rel_upd {e c : Nat → Int32} {a : Nat} {v : Int32} (h : s_rel e c) (ha : 275 ≤ a) : s_rel (upd e a v) (upd c a v) := by
  have hup : ∀ k, e k = c k → upd e a v k = upd c a v k := fun k q => by
    by_cases hk : k = a
    · rw [hk, updI_eq, updI_eq]
    · rw [updI_ne hk, updI_ne hk, q]
  have ecm : s_cm (upd e a v) = s_cm e := by unfold s_cm; rw [updI_ne (by omega)]
  have elm : s_lm (upd e a v) = s_lm e := by unfold s_lm; rw [updI_ne (by omega)]
  have esm : s_sm (upd e a v) = s_sm e := by unfold s_sm; rw [updI_ne (by omega)]
  obtain ⟨⟨h1, h3, h8⟩, h4, h5, h6⟩ := h
  refine ⟨⟨hup 1 h1, hup 3 h3, hup 8 h8⟩, fun j hj x hx1 hx2 => ?_, fun l hl j hj => ?_, fun s hs x hx => ?_⟩
  · rw [ecm] at hj; exact hup (10 + 13 * j + x) (h4 j hj x hx1 hx2)
  · rw [ecm] at hj; rw [elm] at hl; exact hup (75 + 5 * l + j) (h5 l hl j hj)
  · rw [esm] at hs; exact hup (275 + 30 * s + x) (h6 s hs x hx)
/-- E has what e has but for a run's numbers, and c tells E -/
def s_bun (e E c : Nat → Int32) : Prop := s_agF e E ∧ s_wf E ∧ s_stc e E ∧ s_rel E c
theorem s_bun_upd {e E c : Nat → Int32} {s x : Nat} {v : Int32} (hwf : s_wf e) (hs : s < 6) (hx : (8 ≤ x ∧ x < 17 ∧ x ≠ 14 ∧ x ≠ 12) ∨ (21 ≤ x ∧ x < 26)) (h : s_bun e E c) : s_bun e (upd E (275 + 30 * s + x) v) (upd c (275 + 30 * s + x) v) := by
  have h1 : s_agF e (upd E (275 + 30 * s + x) v) := s_agF_upd h.1 (by omega)
  exact ⟨h1, h1.wf hwf (fun q hq => s_kpok_upd (by omega) (h.2.1.kp q (by rw [h.1.sm]; exact hq))), s_stc_upd h.2.2.1 (by omega), s_rel_upd h.2.2.2 (by omega)⟩
theorem s_bun_1 {e c gv : Nat → Int32} {s : Nat} (hwf : s_wf e) (hs : s < s_sm e) (hrel : s_rel e c) : s_bun e (s_r1 e gv s) (s_ckr e c gv s) := by
  have hsm6 := hwf.smE.2
  exact ⟨(s_r1_agr (by omega)).F, (s_r1_agr (by omega)).F.wf hwf (s_r1_kp hwf hs), s_stc_r1 (by omega), s_ckr_rel hwf hs hrel⟩
theorem s_bun_st {B : XH} {o : Nat} {e E c : Nat → Int32} (hwf : s_wf e) (h : s_bun e E c) (hst : st_at B e o) : st_at B E o := h.2.2.1.st hwf.cmE.2 hwf.smE.2 hst
theorem s_ckv_plan {e gv : Nat → Int32} {s : Nat} (hwf : s_wf e) (hs : s < s_sm e) : s_ckv e gv s / 2 - 1 = s_rplan e gv s ∧ (s_keep e gv s → s_ckv e gv s - s_ckv e gv s / 2 * 2 = 1) ∧ (¬ s_keep e gv s → ¬ s_ckv e gv s - s_ckv e gv s / 2 * 2 = 1) := by
  have hp := s_rplan5 (gv := gv) hwf hs
  have d1 : ∀ j, j < 5 → (2 * (nI j + 1) + 1) / 2 - 1 = nI j ∧ (2 * (nI j + 1) + 1) - (2 * (nI j + 1) + 1) / 2 * 2 = 1 := by decide +kernel
  have d2 : ∀ j, j < 5 → (2 * (nI j + 1)) / 2 - 1 = nI j ∧ ¬ (2 * (nI j + 1)) - (2 * (nI j + 1)) / 2 * 2 = 1 := by decide +kernel
  by_cases hk : s_keep e gv s
  · have e1 : s_ckv e gv s = 2 * (s_rplan e gv s + 1) + 1 := by
      rw [show s_ckv e gv s = _ from if_pos hk, show s_rplan e gv s = _ from if_pos hk]
    rw [e1]
    rcases hp with h | ⟨j, hj, h⟩
    · rw [h]; exact ⟨by decide, fun _ => by decide, fun q => absurd hk q⟩
    · rw [h]; exact ⟨(d1 j hj).1, fun _ => (d1 j hj).2, fun q => absurd hk q⟩
  · have e1 : s_ckv e gv s = 2 * (s_rplan e gv s + 1) := by
      rw [show s_ckv e gv s = _ from if_neg hk, show s_rplan e gv s = _ from if_neg hk]
    rw [e1]
    rcases hp with h | ⟨j, hj, h⟩
    · rw [h]; exact ⟨by decide, fun q => absurd q hk, fun _ => by decide⟩
    · rw [h]; exact ⟨(d2 j hj).1, fun q => absurd q hk, fun _ => (d2 j hj).2⟩
/-- the numbers of a Data once the plan is taken -/
def s_ex2 (e c gv : Nat → Int32) (s : Nat) : Nat → Int32 :=
  if s_keep e gv s then s_ckr e c gv s
  else upd (upd (s_ckr e c gv s) (275 + 30 * s + 9) (s_ckr e c gv s (275 + 30 * s + 9) + 1)) (275 + 30 * s + 10) (upd (s_ckr e c gv s) (275 + 30 * s + 9) (s_ckr e c gv s (275 + 30 * s + 9) + 1) (275 + 30 * s + 10) + s_cost e gv s (s_rplan e gv s) true)
def s_exq (e gv : Nat → Int32) (s : Nat) : Int32 := if s_rplan e gv s = -1 then -1 else s_chosen (s_r2 e gv s) gv s (s_rplan e gv s) (!decide (s_keep e gv s))
def s_exn (e gv : Nat → Int32) (s k : Nat) : Int32 := s_tch (s_r2 e gv s) gv k (s_lm (s_r2 e gv s))
def s_exa (e c gv : Nat → Int32) (s : Nat) (t : Int32) : Nat → Int32 := upd (s_ex2 e c gv s) (275 + 30 * s + 13) (s_ex2 e c gv s (275 + 30 * s + 13) + t)
def s_exb (e c gv : Nat → Int32) (s j k : Nat) (z : Bool) : Nat → Int32 := upd (s_exa e c gv s (s_exn e gv s k)) (275 + 30 * s + (21 + j)) (s_lrnc (s_exa e c gv s (s_exn e gv s k)) s j (s_exn e gv s k) (s_est (s_r2 e gv s) gv k z))
/-- what the run touches and learns -/
def s_ex3 (e c gv : Nat → Int32) (s : Nat) : Nat → Int32 :=
  if s_exq e gv s = -1 then s_exa e c gv s (s_ex2 e c gv s 1) else s_exb e c gv s (s_rplan e gv s).toNatClampNeg (s_exq e gv s).toNatClampNeg (!decide (s_keep e gv s))
/-- the numbers of a Data after a run -/
def s_exc (e c gv : Nat → Int32) (s : Nat) : Nat → Int32 := upd (s_ex3 e c gv s) (275 + 30 * s + 8) (s_ex3 e c gv s (275 + 30 * s + 8) + 1)
theorem s_ckr_ne {e c gv : Nat → Int32} {s k : Nat} (h : k ≠ 275 + 30 * s + 14 ∧ k ≠ 275 + 30 * s + 15 ∧ k ≠ 275 + 30 * s + 16 ∧ k ≠ 275 + 30 * s + 11) : s_ckr e c gv s k = c k := by
  unfold s_ckr
  by_cases h1 : s_late e s
  · rw [if_pos h1]
    by_cases h2 : s_fresh e s
    · rw [if_pos h2]
    · rw [if_neg h2, s_kept_ne h]
  · rw [if_neg h1]
theorem s_bun_2 {e c gv : Nat → Int32} {s : Nat} (hwf : s_wf e) (hs : s < s_sm e) (hrel : s_rel e c) : s_bun e (s_r2 e gv s) (s_ex2 e c gv s) := by
  have hsm6 := hwf.smE.2
  have hb := s_bun_1 (gv := gv) hwf hs hrel
  by_cases hk : s_keep e gv s
  · rw [show s_r2 e gv s = s_r1 e gv s from (if_pos hk).trans (if_pos hk.1).symm, show s_ex2 e c gv s = _ from if_pos hk]
    exact hb
  · have h9 : s_st (s_r1 e gv s) s 9 = s_ckr e c gv s (275 + 30 * s + 9) := hb.2.2.2.2.2.2 s (by rw [hb.1.sm]; exact hs) 9 (by omega)
    have h10 : s_st (s_r1 e gv s) s 10 = s_ckr e c gv s (275 + 30 * s + 10) := hb.2.2.2.2.2.2 s (by rw [hb.1.sm]; exact hs) 10 (by omega)
    rw [show s_r2 e gv s = _ from if_neg hk, show s_ex2 e c gv s = _ from if_neg hk, h9, h10, updI_ne (k := 275 + 30 * s + 9) (by omega)]
    exact s_bun_upd hwf (by omega) (by omega) (s_bun_upd hwf (by omega) (by omega) hb)
theorem d_execute {G : XE} (hG : x_Kn G) (hK : x_KS G) {B : XH} {J bf K tk ts : Nat → Int32} {tl : Int64} {tv : Nat → Int64} {su : Nat → Nat} {D : Nat → Nat → Int32} (d : Nat) (i : Nat) (hi : i < 10) {c : Nat → Int32} {e g gv : Nat → Int32} {vn : Nat} (hwf : s_wf e) (hst : st_at B e (su i)) (hrel : s_rel e c) (hvv : v_at B g vn) (hg : g_ok true g gv) (s : Nat) (hs : s < s_sm e) (hns : v_at B (fun _ => -1) 1) (hov : s_gen (s_mkg e gv s) s (s_st (s_mkg e gv s) s 15) ↔ s_st (s_mkg e gv s) s 15 * s_st (s_mkg e gv s) s 9 ≤ s_st (s_mkg e gv s) s 10) {x : Int32} (hx : x = nI s) : x_M G mX3_execute (d + 8) 0 0 [.ref (75 + 20 * i), .int x, .ref vn] (cset B J bf K tk ts tl tv su (updR D i c)) (x_RetV (cset B J bf K tk ts tl tv su (updR D i (s_exc e c gv s)))) x_noX := by
  refine X_M hG okX3_execute rfl (L := [some (.ref (75 + 20 * i)), some (.int x), some (.ref vn), none, none, none, none, none, none]) rfl (Nat.le_of_ble_eq_true rfl) (fun ad0 nb0 => ?_)
  have hsm6 := hwf.smE.2
  have hcm5 := hwf.cmE.2
  have hs6 : s < 6 := by omega
  have hpl := s_rplan5 (gv := gv) hwf hs
  have hcv := s_ckv_plan (gv := gv) hwf hs
  have hb2 := s_bun_2 (gv := gv) hwf hs hrel
  have hs2 : s < s_sm (s_r2 e gv s) := by rw [hb2.1.sm]; exact hs
  have hst2 := s_bun_st hwf hb2 hst
  obtain ⟨-, ht325, -⟩ := s_kok_ft (hb2.2.1.kok hs2)
  have hcm2 := hb2.2.1.cmE.2
  refine X_ld rfl rfl rfl rfl ?_
  refine X_get f_X3_28 rfl (r_D hi updR_eq) rfl ?_
  refine X_ld rfl rfl rfl rfl ?_
  refine X_uald hi updR_eq hx (by omega) (k := s) rfl ?_
  refine X_st rfl rfl rfl ?_
  by_cases hk : s_keep e gv s
  · refine X_ld rfl rfl rfl rfl ?_
    refine X_ld rfl rfl rfl rfl ?_
    refine X_ld rfl rfl rfl rfl ?_
    refine X_vcall (r_D hi updR_eq) l_X3_X3_choosePlan (d_choosePlan hG hK d i hi hwf hst hrel hvv hg s hs hns hov hx) rfl rfl rfl rfl (Nat.le_of_ble_eq_true rfl) (Nat.le_of_ble_eq_true rfl) (by omega) (Nat.le_of_ble_eq_true rfl) (Nat.le_of_ble_eq_true rfl) ?_
    refine X_st rfl rfl rfl ?_
    refine X_ld rfl rfl rfl rfl ?_
    refine X_push (v := .int 2) rfl (by decide +kernel) ?_
    refine X_idiv rfl (by decide) ?_
    refine X_push (v := .int 1) rfl (by decide +kernel) ?_
    refine X_bin rfl rfl ?_
    refine X_st rfl rfl rfl ?_
    refine X_loc (L' := [some (.ref (75 + 20 * i)), some (.int x), some (.ref vn), some (.ref (75 + 20 * i + (8 + 2 * s))), some (.int (s_ckv e gv s)), some (.int (s_rplan e gv s)), none, none, none]) ⟨rfl, rfl, rfl, rfl, rfl, congrArg Value.int hcv.1.symm, trivial⟩ ?_
    refine X_ld rfl rfl rfl rfl ?_
    refine X_push (v := .int 2) rfl (by decide +kernel) ?_
    refine X_irem rfl (by decide) ?_
    refine X_push (v := .int 1) rfl (by decide +kernel) ?_
    refine X_icmp_ne rfl (fun c28 => absurd (hcv.2.1 hk) c28) (fun c28 => ?_)
    refine X_push (v := .int 1) rfl (by decide +kernel) ?_
    refine X_goto rfl ?_
    refine X_st rfl rfl rfl ?_
    refine X_ld rfl rfl rfl rfl ?_
    refine X_if_ne rfl (fun c40 => ?_) (fun c40 => absurd c40 (by decide))
    refine X_heap (N' := cset B J bf K tk ts tl tv su (updR D i (s_ex2 e c gv s))) (by rw [show s_ex2 e c gv s = _ from if_pos hk]) ?_
    refine X_ld rfl rfl rfl rfl ?_
    refine X_ld rfl rfl rfl rfl ?_
    refine X_ld rfl rfl rfl rfl ?_
    refine X_ld rfl rfl rfl rfl ?_
    refine X_if_eq rfl (fun c76 => absurd c76 (by decide)) (fun c76 => ?_)
    refine X_getsN (v := .ref 1) k_none hK.1.2.2.2 (show (1 : Nat) < 64 by decide) rfl ?_
    refine X_goto rfl ?_
    refine X_vcallP (r_D hi updR_eq) l_X3_X3_chosenFor (d_chosenFor hG (d + 3) i hi (e := s_r2 e gv s) (z := false) (gv := gv) hb2.2.1 hst2 hb2.2.2.2 hns g_none s hs2 hx) rfl rfl rfl rfl (Nat.le_of_ble_eq_true rfl) (Nat.le_of_ble_eq_true rfl) (by omega) (Nat.le_of_ble_eq_true rfl) (Nat.le_of_ble_eq_true rfl) (fun N9 r9 hC => ?_)
    obtain ⟨rfl, hC⟩ := hC
    rcases hC with ⟨hch, rfl⟩ | ⟨k, oq, hkr, hch, hkc, hk0, rfl, hq⟩
    · refine X_stk (st' := [.null]) rfl ?_
      refine X_st rfl rfl rfl ?_
      refine X_ld rfl rfl rfl rfl ?_
      refine X_push (v := .int (-1)) rfl (by decide +kernel) ?_
      refine X_icmp_eq rfl (fun c94 => ?_) (fun c94 => ?_)
      · refine X_ld rfl rfl rfl rfl ?_
        refine X_dup rfl rfl ?_
        refine X_get f_X3_196 rfl (r_u hi (by omega) updR_eq) rfl ?_
        refine X_ld rfl rfl rfl rfl ?_
        refine X_get f_X3_37 rfl (r_D hi updR_eq) rfl ?_
        refine X_bin rfl rfl ?_
        refine X_put f_X3_196 rfl (r_u hi (by omega) updR_eq) ⟨rfl, rfl⟩ ?_
        refine X_heap (N' := cset B J bf K tk ts tl tv su (updR D i (upd (s_ex2 e c gv s) (275 + 30 * s + 13) (((s_ex2 e c gv s) (275 + 30 * s + 13)) + ((s_ex2 e c gv s) 1))))) (w_u (k := 7) hi (by omega) (by decide)) ?_
        refine X_heap (N' := cset B J bf K tk ts tl tv su (updR D i (s_ex3 e c gv s))) (congrArg (fun r => cset B J bf K tk ts tl tv su (updR D i r)) (show s_exa e c gv s (s_ex2 e c gv s 1) = _ by rw [show s_ex3 e c gv s = _ from if_pos (show s_exq e gv s = -1 from if_pos c94)])) ?_
        refine X_goto rfl ?_
        refine X_ld rfl rfl rfl rfl ?_
        refine X_dup rfl rfl ?_
        refine X_get f_X3_160 rfl (r_u hi (by omega) updR_eq) rfl ?_
        refine X_push (v := .int 1) rfl (by decide +kernel) ?_
        refine X_bin rfl rfl ?_
        refine X_put f_X3_160 rfl (r_u hi (by omega) updR_eq) ⟨rfl, rfl⟩ ?_
        refine X_heap (N' := cset B J bf K tk ts tl tv su (updR D i (upd (s_ex3 e c gv s) (275 + 30 * s + 8) (((s_ex3 e c gv s) (275 + 30 * s + 8)) + 1)))) (w_u (k := 0) hi (by omega) (by decide)) ?_
        exact X_vret rfl rfl ⟨rfl, rfl⟩ (Nat.le_of_ble_eq_true rfl) (Nat.le_of_ble_eq_true rfl)
      · refine X_ld rfl rfl rfl rfl ?_
        refine X_ifnonnullN rfl ?_
        · refine X_ld rfl rfl rfl rfl ?_
          refine X_dup rfl rfl ?_
          refine X_get f_X3_196 rfl (r_u hi (by omega) updR_eq) rfl ?_
          refine X_ld rfl rfl rfl rfl ?_
          refine X_get f_X3_37 rfl (r_D hi updR_eq) rfl ?_
          refine X_bin rfl rfl ?_
          refine X_put f_X3_196 rfl (r_u hi (by omega) updR_eq) ⟨rfl, rfl⟩ ?_
          refine X_heap (N' := cset B J bf K tk ts tl tv su (updR D i (upd (s_ex2 e c gv s) (275 + 30 * s + 13) (((s_ex2 e c gv s) (275 + 30 * s + 13)) + ((s_ex2 e c gv s) 1))))) (w_u (k := 7) hi (by omega) (by decide)) ?_
          refine X_heap (N' := cset B J bf K tk ts tl tv su (updR D i (s_ex3 e c gv s))) (congrArg (fun r => cset B J bf K tk ts tl tv su (updR D i r)) (show s_exa e c gv s (s_ex2 e c gv s 1) = _ by rw [show s_ex3 e c gv s = _ from if_pos (show s_exq e gv s = -1 from by unfold s_exq; rw [if_neg c94, (show (!decide (s_keep e gv s)) = false from congrArg not (decide_eq_true hk))]; exact hch)])) ?_
          refine X_goto rfl ?_
          refine X_ld rfl rfl rfl rfl ?_
          refine X_dup rfl rfl ?_
          refine X_get f_X3_160 rfl (r_u hi (by omega) updR_eq) rfl ?_
          refine X_push (v := .int 1) rfl (by decide +kernel) ?_
          refine X_bin rfl rfl ?_
          refine X_put f_X3_160 rfl (r_u hi (by omega) updR_eq) ⟨rfl, rfl⟩ ?_
          refine X_heap (N' := cset B J bf K tk ts tl tv su (updR D i (upd (s_ex3 e c gv s) (275 + 30 * s + 8) (((s_ex3 e c gv s) (275 + 30 * s + 8)) + 1)))) (w_u (k := 0) hi (by omega) (by decide)) ?_
          exact X_vret rfl rfl ⟨rfl, rfl⟩ (Nat.le_of_ble_eq_true rfl) (Nat.le_of_ble_eq_true rfl)
    · refine X_stk (st' := [.ref oq]) rfl ?_
      have hc : s_cmpok (s_r2 e gv s) k := (hb2.2.1.st s hs2).2.2 k hkr.1 hkr.2 hk0
      have ek : (s_chosen (s_r2 e gv s) gv s (s_rplan e gv s) false).toNatClampNeg = k := by rw [hch]; exact nI_clamp (by omega)
      refine X_st rfl rfl rfl ?_
      refine X_ld rfl rfl rfl rfl ?_
      refine X_push (v := .int (-1)) rfl (by decide +kernel) ?_
      refine X_icmp_eq rfl (fun c94 => ?_) (fun c94 => ?_)
      · refine X_ld rfl rfl rfl rfl ?_
        refine X_dup rfl rfl ?_
        refine X_get f_X3_196 rfl (r_u hi (by omega) updR_eq) rfl ?_
        refine X_ld rfl rfl rfl rfl ?_
        refine X_get f_X3_37 rfl (r_D hi updR_eq) rfl ?_
        refine X_bin rfl rfl ?_
        refine X_put f_X3_196 rfl (r_u hi (by omega) updR_eq) ⟨rfl, rfl⟩ ?_
        refine X_heap (N' := cset B J bf K tk ts tl tv su (updR D i (upd (s_ex2 e c gv s) (275 + 30 * s + 13) (((s_ex2 e c gv s) (275 + 30 * s + 13)) + ((s_ex2 e c gv s) 1))))) (w_u (k := 7) hi (by omega) (by decide)) ?_
        refine X_heap (N' := cset B J bf K tk ts tl tv su (updR D i (s_ex3 e c gv s))) (congrArg (fun r => cset B J bf K tk ts tl tv su (updR D i r)) (show s_exa e c gv s (s_ex2 e c gv s 1) = _ by rw [show s_ex3 e c gv s = _ from if_pos (show s_exq e gv s = -1 from if_pos c94)])) ?_
        refine X_goto rfl ?_
        refine X_ld rfl rfl rfl rfl ?_
        refine X_dup rfl rfl ?_
        refine X_get f_X3_160 rfl (r_u hi (by omega) updR_eq) rfl ?_
        refine X_push (v := .int 1) rfl (by decide +kernel) ?_
        refine X_bin rfl rfl ?_
        refine X_put f_X3_160 rfl (r_u hi (by omega) updR_eq) ⟨rfl, rfl⟩ ?_
        refine X_heap (N' := cset B J bf K tk ts tl tv su (updR D i (upd (s_ex3 e c gv s) (275 + 30 * s + 8) (((s_ex3 e c gv s) (275 + 30 * s + 8)) + 1)))) (w_u (k := 0) hi (by omega) (by decide)) ?_
        exact X_vret rfl rfl ⟨rfl, rfl⟩ (Nat.le_of_ble_eq_true rfl) (Nat.le_of_ble_eq_true rfl)
      · refine X_ld rfl rfl rfl rfl ?_
        refine X_ifnonnull rfl ?_
        · refine X_ld rfl rfl rfl rfl ?_
          refine X_ld rfl rfl rfl rfl ?_
          refine X_ld rfl rfl rfl rfl ?_
          refine X_vcall (c_B hq.1 hq.2) l_X3_X0_matches (q_matches hG (d + 5) i hi hq hvv hc hcm2 hb2.2.2.2 (s_lm (s_r2 e gv s)) (hb2.2.2.2.1.1.symm.trans hb2.2.1.lmE.1) hb2.2.1.lmE.2) rfl rfl rfl rfl (Nat.le_of_ble_eq_true rfl) (Nat.le_of_ble_eq_true rfl) (by omega) (Nat.le_of_ble_eq_true rfl) (Nat.le_of_ble_eq_true rfl) ?_
          refine X_scall l_X3_J13_bitCount_95d88 (j_bitCount hG (d + 7) ) rfl rfl rfl (Nat.le_of_ble_eq_true rfl) (Nat.le_of_ble_eq_true rfl) (by omega) (Nat.le_of_ble_eq_true rfl) (Nat.le_of_ble_eq_true rfl) ?_
          refine X_stk (st' := [.int (s_exn e gv s k)]) (congrArg (fun q => [Value.int q]) (show s_bc (s_mt (s_r2 e gv s) g k (s_lm (s_r2 e gv s))) = s_exn e gv s k by rw [s_mt_me, s_bc_me hb2.2.1.lmE.2]; exact (s_ce_cong _ (fun l _ => s_tru_g hc hg)).trans (s_tch_ce _).symm)) ?_
          refine X_st rfl rfl rfl ?_
          refine X_ld rfl rfl rfl rfl ?_
          refine X_dup rfl rfl ?_
          refine X_get f_X3_196 rfl (r_u hi (by omega) updR_eq) rfl ?_
          refine X_ld rfl rfl rfl rfl ?_
          refine X_bin rfl rfl ?_
          refine X_put f_X3_196 rfl (r_u hi (by omega) updR_eq) ⟨rfl, rfl⟩ ?_
          refine X_heap (N' := cset B J bf K tk ts tl tv su (updR D i (upd (s_ex2 e c gv s) (275 + 30 * s + 13) (((s_ex2 e c gv s) (275 + 30 * s + 13)) + (s_exn e gv s k))))) (w_u (k := 7) hi (by omega) (by decide)) ?_
          refine X_ld rfl rfl rfl rfl ?_
          refine X_ld rfl rfl rfl rfl ?_
          refine X_ld rfl rfl rfl rfl ?_
          refine X_ld rfl rfl rfl rfl ?_
          refine X_get f_X3_22 rfl (r_D hi updR_eq) rfl ?_
          refine X_ld rfl rfl rfl rfl ?_
          refine X_ld rfl rfl rfl rfl ?_
          refine X_if_eq rfl (fun c154 => absurd c154 (by decide)) (fun c154 => ?_)
          refine X_getsN (v := .ref 1) k_none hK.1.2.2.2 (show (1 : Nat) < 64 by decide) rfl ?_
          refine X_goto rfl ?_
          obtain ⟨jc, hjc, hjc1⟩ := hc.1
          have hjp : s_rplan e gv s = nI jc := hkc.symm.trans hjc1
          have hb3 : s_bun e (upd (s_r2 e gv s) (275 + 30 * s + 13) (s_ex2 e c gv s (275 + 30 * s + 13) + s_exn e gv s k)) (upd (s_ex2 e c gv s) (275 + 30 * s + 13) (s_ex2 e c gv s (275 + 30 * s + 13) + s_exn e gv s k)) := s_bun_upd hwf (by omega) (by omega) hb2
          have h23 : s_stc (s_r2 e gv s) (upd (s_r2 e gv s) (275 + 30 * s + 13) (s_ex2 e c gv s (275 + 30 * s + 13) + s_exn e gv s k)) := s_stc_upd s_stc_rfl (by omega)
          refine X_vcall (r_S hi updR_eq) l_X3_X7_estimate (t_estimate hG (d + 6) i hi (e := (upd (s_r2 e gv s) (275 + 30 * s + 13) (s_ex2 e c gv s (275 + 30 * s + 13) + s_exn e gv s k))) (h23.q hq) hns (h23.ok hc) jc (by omega) ((h23.cod k 1).symm.trans hjc1)) rfl rfl rfl rfl (Nat.le_of_ble_eq_true rfl) (Nat.le_of_ble_eq_true rfl) (by omega) (Nat.le_of_ble_eq_true rfl) (Nat.le_of_ble_eq_true rfl) ?_
          refine X_stk (congrArg (fun q => Value.int q :: _) ((s_cest_est (z := false) (gv := gv) hb3.2.1 (h23.ok hc) hb3.2.2.2 (show jc < s_cm (upd (s_r2 e gv s) (275 + 30 * s + 13) (s_ex2 e c gv s (275 + 30 * s + 13) + s_exn e gv s k)) by rw [← h23.cm]; exact hjc) ((h23.cod k 1).symm.trans hjc1) g_none).trans (show s_est (s_r2 e gv s) gv k false = _ from (s_agr_upd s_agr_rfl (by omega)).F.est ((hb2.2.1.kok hs2).2 k hkr.1 hkr.2 hk0)).symm)) ?_
          refine X_vcallv (r_u hi (show s < 6 by omega) updR_eq) l_X3_X9_learn (u_learn hG (d + 6) i hi s (by omega) hjp (by omega)) rfl rfl rfl rfl (Nat.le_of_ble_eq_true rfl) (Nat.le_of_ble_eq_true rfl) (by omega) (Nat.le_of_ble_eq_true rfl) (Nat.le_of_ble_eq_true rfl) ?_
          have eq9 : s_exq e gv s = nI k := by unfold s_exq; rw [if_neg c94, (show (!decide (s_keep e gv s)) = false from congrArg not (decide_eq_true hk))]; exact hch
          have ek9 : (s_exq e gv s).toNatClampNeg = k := by rw [eq9]; exact nI_clamp (by omega)
          have ej9 : (s_rplan e gv s).toNatClampNeg = jc := by rw [hjp]; exact nI_clamp (by omega)
          refine X_heap (N' := cset B J bf K tk ts tl tv su (updR D i (s_ex3 e c gv s))) (congrArg (fun r => cset B J bf K tk ts tl tv su (updR D i r)) (show s_exb e c gv s jc k false = _ by rw [show s_ex3 e c gv s = _ from if_neg (show ¬ s_exq e gv s = -1 by rw [eq9]; exact nI_ne_m1 (by omega)), ek9, ej9, (show (!decide (s_keep e gv s)) = false from congrArg not (decide_eq_true hk))])) ?_
          refine X_ld rfl rfl rfl rfl ?_
          refine X_dup rfl rfl ?_
          refine X_get f_X3_160 rfl (r_u hi (by omega) updR_eq) rfl ?_
          refine X_push (v := .int 1) rfl (by decide +kernel) ?_
          refine X_bin rfl rfl ?_
          refine X_put f_X3_160 rfl (r_u hi (by omega) updR_eq) ⟨rfl, rfl⟩ ?_
          refine X_heap (N' := cset B J bf K tk ts tl tv su (updR D i (upd (s_ex3 e c gv s) (275 + 30 * s + 8) (((s_ex3 e c gv s) (275 + 30 * s + 8)) + 1)))) (w_u (k := 0) hi (by omega) (by decide)) ?_
          exact X_vret rfl rfl ⟨rfl, rfl⟩ (Nat.le_of_ble_eq_true rfl) (Nat.le_of_ble_eq_true rfl)
  · refine X_ld rfl rfl rfl rfl ?_
    refine X_ld rfl rfl rfl rfl ?_
    refine X_ld rfl rfl rfl rfl ?_
    refine X_vcall (r_D hi updR_eq) l_X3_X3_choosePlan (d_choosePlan hG hK d i hi hwf hst hrel hvv hg s hs hns hov hx) rfl rfl rfl rfl (Nat.le_of_ble_eq_true rfl) (Nat.le_of_ble_eq_true rfl) (by omega) (Nat.le_of_ble_eq_true rfl) (Nat.le_of_ble_eq_true rfl) ?_
    refine X_st rfl rfl rfl ?_
    refine X_ld rfl rfl rfl rfl ?_
    refine X_push (v := .int 2) rfl (by decide +kernel) ?_
    refine X_idiv rfl (by decide) ?_
    refine X_push (v := .int 1) rfl (by decide +kernel) ?_
    refine X_bin rfl rfl ?_
    refine X_st rfl rfl rfl ?_
    refine X_loc (L' := [some (.ref (75 + 20 * i)), some (.int x), some (.ref vn), some (.ref (75 + 20 * i + (8 + 2 * s))), some (.int (s_ckv e gv s)), some (.int (s_rplan e gv s)), none, none, none]) ⟨rfl, rfl, rfl, rfl, rfl, congrArg Value.int hcv.1.symm, trivial⟩ ?_
    refine X_ld rfl rfl rfl rfl ?_
    refine X_push (v := .int 2) rfl (by decide +kernel) ?_
    refine X_irem rfl (by decide) ?_
    refine X_push (v := .int 1) rfl (by decide +kernel) ?_
    refine X_icmp_ne rfl (fun c28 => ?_) (fun c28 => absurd c28 (hcv.2.2 hk))
    refine X_push (v := .int 0) rfl (by decide +kernel) ?_
    refine X_st rfl rfl rfl ?_
    refine X_ld rfl rfl rfl rfl ?_
    refine X_if_ne rfl (fun c40 => absurd (by decide) c40) (fun c40 => ?_)
    refine X_ld rfl rfl rfl rfl ?_
    refine X_dup rfl rfl ?_
    refine X_get f_X3_190 rfl (r_u hi (by omega) updR_eq) rfl ?_
    refine X_push (v := .int 1) rfl (by decide +kernel) ?_
    refine X_bin rfl rfl ?_
    refine X_put f_X3_190 rfl (r_u hi (by omega) updR_eq) ⟨rfl, rfl⟩ ?_
    refine X_heap (N' := cset B J bf K tk ts tl tv su (updR D i (upd (s_ckr e c gv s) (275 + 30 * s + 9) (((s_ckr e c gv s) (275 + 30 * s + 9)) + 1)))) (w_u (k := 1) hi (by omega) (by decide)) ?_
    refine X_ld rfl rfl rfl rfl ?_
    refine X_dup rfl rfl ?_
    refine X_get f_X3_193 rfl (r_u hi (by omega) updR_eq) rfl ?_
    have hb9 : s_bun e (upd (s_r1 e gv s) (275 + 30 * s + 9) (s_ckr e c gv s (275 + 30 * s + 9) + 1)) (upd (s_ckr e c gv s) (275 + 30 * s + 9) (s_ckr e c gv s (275 + 30 * s + 9) + 1)) := s_bun_upd hwf (by omega) (by omega) (s_bun_1 hwf hs hrel)
    refine X_ld rfl rfl rfl rfl ?_
    refine X_ld rfl rfl rfl rfl ?_
    refine X_ld rfl rfl rfl rfl ?_
    refine X_ld rfl rfl rfl rfl ?_
    refine X_vcall (r_D hi updR_eq) l_X3_X3_costOf (d_costOf hG (d + 2) i hi (e := (upd (s_r1 e gv s) (275 + 30 * s + 9) (s_ckr e c gv s (275 + 30 * s + 9) + 1))) (z := true) (gv := gv) hb9.2.1 (s_bun_st hwf hb9 hst) hb9.2.2.2 hvv hg s (by rw [hb9.1.sm]; exact hs) hx hpl) rfl rfl rfl rfl (Nat.le_of_ble_eq_true rfl) (Nat.le_of_ble_eq_true rfl) (by omega) (Nat.le_of_ble_eq_true rfl) (Nat.le_of_ble_eq_true rfl) ?_
    refine X_stk (congrArg (fun q => Value.int q :: _) (s_agr.cost (s_agr_upd (s_r1_agr (by omega)) (by omega)) (hwf.kok hs) hpl).symm) ?_
    refine X_bin rfl rfl ?_
    refine X_put f_X3_193 rfl (r_u hi (by omega) updR_eq) ⟨rfl, rfl⟩ ?_
    refine X_heap (N' := cset B J bf K tk ts tl tv su (updR D i (upd (upd (s_ckr e c gv s) (275 + 30 * s + 9) (((s_ckr e c gv s) (275 + 30 * s + 9)) + 1)) (275 + 30 * s + 10) (((upd (s_ckr e c gv s) (275 + 30 * s + 9) (((s_ckr e c gv s) (275 + 30 * s + 9)) + 1)) (275 + 30 * s + 10)) + (s_cost e gv s (s_rplan e gv s) true))))) (w_u (k := 2) hi (by omega) (by decide)) ?_
    refine X_heap (N' := cset B J bf K tk ts tl tv su (updR D i (s_ex2 e c gv s))) (by rw [show s_ex2 e c gv s = _ from if_neg hk]) ?_
    refine X_ld rfl rfl rfl rfl ?_
    refine X_ld rfl rfl rfl rfl ?_
    refine X_ld rfl rfl rfl rfl ?_
    refine X_ld rfl rfl rfl rfl ?_
    refine X_if_eq rfl (fun c76 => ?_) (fun c76 => absurd (by decide) c76)
    refine X_ld rfl rfl rfl rfl ?_
    refine X_vcallP (r_D hi updR_eq) l_X3_X3_chosenFor (d_chosenFor hG (d + 3) i hi (e := s_r2 e gv s) (z := true) (gv := gv) hb2.2.1 hst2 hb2.2.2.2 hvv hg s hs2 hx) rfl rfl rfl rfl (Nat.le_of_ble_eq_true rfl) (Nat.le_of_ble_eq_true rfl) (by omega) (Nat.le_of_ble_eq_true rfl) (Nat.le_of_ble_eq_true rfl) (fun N9 r9 hC => ?_)
    obtain ⟨rfl, hC⟩ := hC
    rcases hC with ⟨hch, rfl⟩ | ⟨k, oq, hkr, hch, hkc, hk0, rfl, hq⟩
    · refine X_stk (st' := [.null]) rfl ?_
      refine X_st rfl rfl rfl ?_
      refine X_ld rfl rfl rfl rfl ?_
      refine X_push (v := .int (-1)) rfl (by decide +kernel) ?_
      refine X_icmp_eq rfl (fun c94 => ?_) (fun c94 => ?_)
      · refine X_ld rfl rfl rfl rfl ?_
        refine X_dup rfl rfl ?_
        refine X_get f_X3_196 rfl (r_u hi (by omega) updR_eq) rfl ?_
        refine X_ld rfl rfl rfl rfl ?_
        refine X_get f_X3_37 rfl (r_D hi updR_eq) rfl ?_
        refine X_bin rfl rfl ?_
        refine X_put f_X3_196 rfl (r_u hi (by omega) updR_eq) ⟨rfl, rfl⟩ ?_
        refine X_heap (N' := cset B J bf K tk ts tl tv su (updR D i (upd (s_ex2 e c gv s) (275 + 30 * s + 13) (((s_ex2 e c gv s) (275 + 30 * s + 13)) + ((s_ex2 e c gv s) 1))))) (w_u (k := 7) hi (by omega) (by decide)) ?_
        refine X_heap (N' := cset B J bf K tk ts tl tv su (updR D i (s_ex3 e c gv s))) (congrArg (fun r => cset B J bf K tk ts tl tv su (updR D i r)) (show s_exa e c gv s (s_ex2 e c gv s 1) = _ by rw [show s_ex3 e c gv s = _ from if_pos (show s_exq e gv s = -1 from if_pos c94)])) ?_
        refine X_goto rfl ?_
        refine X_ld rfl rfl rfl rfl ?_
        refine X_dup rfl rfl ?_
        refine X_get f_X3_160 rfl (r_u hi (by omega) updR_eq) rfl ?_
        refine X_push (v := .int 1) rfl (by decide +kernel) ?_
        refine X_bin rfl rfl ?_
        refine X_put f_X3_160 rfl (r_u hi (by omega) updR_eq) ⟨rfl, rfl⟩ ?_
        refine X_heap (N' := cset B J bf K tk ts tl tv su (updR D i (upd (s_ex3 e c gv s) (275 + 30 * s + 8) (((s_ex3 e c gv s) (275 + 30 * s + 8)) + 1)))) (w_u (k := 0) hi (by omega) (by decide)) ?_
        exact X_vret rfl rfl ⟨rfl, rfl⟩ (Nat.le_of_ble_eq_true rfl) (Nat.le_of_ble_eq_true rfl)
      · refine X_ld rfl rfl rfl rfl ?_
        refine X_ifnonnullN rfl ?_
        · refine X_ld rfl rfl rfl rfl ?_
          refine X_dup rfl rfl ?_
          refine X_get f_X3_196 rfl (r_u hi (by omega) updR_eq) rfl ?_
          refine X_ld rfl rfl rfl rfl ?_
          refine X_get f_X3_37 rfl (r_D hi updR_eq) rfl ?_
          refine X_bin rfl rfl ?_
          refine X_put f_X3_196 rfl (r_u hi (by omega) updR_eq) ⟨rfl, rfl⟩ ?_
          refine X_heap (N' := cset B J bf K tk ts tl tv su (updR D i (upd (s_ex2 e c gv s) (275 + 30 * s + 13) (((s_ex2 e c gv s) (275 + 30 * s + 13)) + ((s_ex2 e c gv s) 1))))) (w_u (k := 7) hi (by omega) (by decide)) ?_
          refine X_heap (N' := cset B J bf K tk ts tl tv su (updR D i (s_ex3 e c gv s))) (congrArg (fun r => cset B J bf K tk ts tl tv su (updR D i r)) (show s_exa e c gv s (s_ex2 e c gv s 1) = _ by rw [show s_ex3 e c gv s = _ from if_pos (show s_exq e gv s = -1 from by unfold s_exq; rw [if_neg c94, (show (!decide (s_keep e gv s)) = true from congrArg not (decide_eq_false hk))]; exact hch)])) ?_
          refine X_goto rfl ?_
          refine X_ld rfl rfl rfl rfl ?_
          refine X_dup rfl rfl ?_
          refine X_get f_X3_160 rfl (r_u hi (by omega) updR_eq) rfl ?_
          refine X_push (v := .int 1) rfl (by decide +kernel) ?_
          refine X_bin rfl rfl ?_
          refine X_put f_X3_160 rfl (r_u hi (by omega) updR_eq) ⟨rfl, rfl⟩ ?_
          refine X_heap (N' := cset B J bf K tk ts tl tv su (updR D i (upd (s_ex3 e c gv s) (275 + 30 * s + 8) (((s_ex3 e c gv s) (275 + 30 * s + 8)) + 1)))) (w_u (k := 0) hi (by omega) (by decide)) ?_
          exact X_vret rfl rfl ⟨rfl, rfl⟩ (Nat.le_of_ble_eq_true rfl) (Nat.le_of_ble_eq_true rfl)
    · refine X_stk (st' := [.ref oq]) rfl ?_
      have hc : s_cmpok (s_r2 e gv s) k := (hb2.2.1.st s hs2).2.2 k hkr.1 hkr.2 hk0
      have ek : (s_chosen (s_r2 e gv s) gv s (s_rplan e gv s) true).toNatClampNeg = k := by rw [hch]; exact nI_clamp (by omega)
      refine X_st rfl rfl rfl ?_
      refine X_ld rfl rfl rfl rfl ?_
      refine X_push (v := .int (-1)) rfl (by decide +kernel) ?_
      refine X_icmp_eq rfl (fun c94 => ?_) (fun c94 => ?_)
      · refine X_ld rfl rfl rfl rfl ?_
        refine X_dup rfl rfl ?_
        refine X_get f_X3_196 rfl (r_u hi (by omega) updR_eq) rfl ?_
        refine X_ld rfl rfl rfl rfl ?_
        refine X_get f_X3_37 rfl (r_D hi updR_eq) rfl ?_
        refine X_bin rfl rfl ?_
        refine X_put f_X3_196 rfl (r_u hi (by omega) updR_eq) ⟨rfl, rfl⟩ ?_
        refine X_heap (N' := cset B J bf K tk ts tl tv su (updR D i (upd (s_ex2 e c gv s) (275 + 30 * s + 13) (((s_ex2 e c gv s) (275 + 30 * s + 13)) + ((s_ex2 e c gv s) 1))))) (w_u (k := 7) hi (by omega) (by decide)) ?_
        refine X_heap (N' := cset B J bf K tk ts tl tv su (updR D i (s_ex3 e c gv s))) (congrArg (fun r => cset B J bf K tk ts tl tv su (updR D i r)) (show s_exa e c gv s (s_ex2 e c gv s 1) = _ by rw [show s_ex3 e c gv s = _ from if_pos (show s_exq e gv s = -1 from if_pos c94)])) ?_
        refine X_goto rfl ?_
        refine X_ld rfl rfl rfl rfl ?_
        refine X_dup rfl rfl ?_
        refine X_get f_X3_160 rfl (r_u hi (by omega) updR_eq) rfl ?_
        refine X_push (v := .int 1) rfl (by decide +kernel) ?_
        refine X_bin rfl rfl ?_
        refine X_put f_X3_160 rfl (r_u hi (by omega) updR_eq) ⟨rfl, rfl⟩ ?_
        refine X_heap (N' := cset B J bf K tk ts tl tv su (updR D i (upd (s_ex3 e c gv s) (275 + 30 * s + 8) (((s_ex3 e c gv s) (275 + 30 * s + 8)) + 1)))) (w_u (k := 0) hi (by omega) (by decide)) ?_
        exact X_vret rfl rfl ⟨rfl, rfl⟩ (Nat.le_of_ble_eq_true rfl) (Nat.le_of_ble_eq_true rfl)
      · refine X_ld rfl rfl rfl rfl ?_
        refine X_ifnonnull rfl ?_
        · refine X_ld rfl rfl rfl rfl ?_
          refine X_ld rfl rfl rfl rfl ?_
          refine X_ld rfl rfl rfl rfl ?_
          refine X_vcall (c_B hq.1 hq.2) l_X3_X0_matches (q_matches hG (d + 5) i hi hq hvv hc hcm2 hb2.2.2.2 (s_lm (s_r2 e gv s)) (hb2.2.2.2.1.1.symm.trans hb2.2.1.lmE.1) hb2.2.1.lmE.2) rfl rfl rfl rfl (Nat.le_of_ble_eq_true rfl) (Nat.le_of_ble_eq_true rfl) (by omega) (Nat.le_of_ble_eq_true rfl) (Nat.le_of_ble_eq_true rfl) ?_
          refine X_scall l_X3_J13_bitCount_95d88 (j_bitCount hG (d + 7) ) rfl rfl rfl (Nat.le_of_ble_eq_true rfl) (Nat.le_of_ble_eq_true rfl) (by omega) (Nat.le_of_ble_eq_true rfl) (Nat.le_of_ble_eq_true rfl) ?_
          refine X_stk (st' := [.int (s_exn e gv s k)]) (congrArg (fun q => [Value.int q]) (show s_bc (s_mt (s_r2 e gv s) g k (s_lm (s_r2 e gv s))) = s_exn e gv s k by rw [s_mt_me, s_bc_me hb2.2.1.lmE.2]; exact (s_ce_cong _ (fun l _ => s_tru_g hc hg)).trans (s_tch_ce _).symm)) ?_
          refine X_st rfl rfl rfl ?_
          refine X_ld rfl rfl rfl rfl ?_
          refine X_dup rfl rfl ?_
          refine X_get f_X3_196 rfl (r_u hi (by omega) updR_eq) rfl ?_
          refine X_ld rfl rfl rfl rfl ?_
          refine X_bin rfl rfl ?_
          refine X_put f_X3_196 rfl (r_u hi (by omega) updR_eq) ⟨rfl, rfl⟩ ?_
          refine X_heap (N' := cset B J bf K tk ts tl tv su (updR D i (upd (s_ex2 e c gv s) (275 + 30 * s + 13) (((s_ex2 e c gv s) (275 + 30 * s + 13)) + (s_exn e gv s k))))) (w_u (k := 7) hi (by omega) (by decide)) ?_
          refine X_ld rfl rfl rfl rfl ?_
          refine X_ld rfl rfl rfl rfl ?_
          refine X_ld rfl rfl rfl rfl ?_
          refine X_ld rfl rfl rfl rfl ?_
          refine X_get f_X3_22 rfl (r_D hi updR_eq) rfl ?_
          refine X_ld rfl rfl rfl rfl ?_
          refine X_ld rfl rfl rfl rfl ?_
          refine X_if_eq rfl (fun c154 => ?_) (fun c154 => absurd (by decide) c154)
          refine X_ld rfl rfl rfl rfl ?_
          obtain ⟨jc, hjc, hjc1⟩ := hc.1
          have hjp : s_rplan e gv s = nI jc := hkc.symm.trans hjc1
          have hb3 : s_bun e (upd (s_r2 e gv s) (275 + 30 * s + 13) (s_ex2 e c gv s (275 + 30 * s + 13) + s_exn e gv s k)) (upd (s_ex2 e c gv s) (275 + 30 * s + 13) (s_ex2 e c gv s (275 + 30 * s + 13) + s_exn e gv s k)) := s_bun_upd hwf (by omega) (by omega) hb2
          have h23 : s_stc (s_r2 e gv s) (upd (s_r2 e gv s) (275 + 30 * s + 13) (s_ex2 e c gv s (275 + 30 * s + 13) + s_exn e gv s k)) := s_stc_upd s_stc_rfl (by omega)
          refine X_vcall (r_S hi updR_eq) l_X3_X7_estimate (t_estimate hG (d + 6) i hi (e := (upd (s_r2 e gv s) (275 + 30 * s + 13) (s_ex2 e c gv s (275 + 30 * s + 13) + s_exn e gv s k))) (h23.q hq) hvv (h23.ok hc) jc (by omega) ((h23.cod k 1).symm.trans hjc1)) rfl rfl rfl rfl (Nat.le_of_ble_eq_true rfl) (Nat.le_of_ble_eq_true rfl) (by omega) (Nat.le_of_ble_eq_true rfl) (Nat.le_of_ble_eq_true rfl) ?_
          refine X_stk (congrArg (fun q => Value.int q :: _) ((s_cest_est (z := true) (gv := gv) hb3.2.1 (h23.ok hc) hb3.2.2.2 (show jc < s_cm (upd (s_r2 e gv s) (275 + 30 * s + 13) (s_ex2 e c gv s (275 + 30 * s + 13) + s_exn e gv s k)) by rw [← h23.cm]; exact hjc) ((h23.cod k 1).symm.trans hjc1) hg).trans (show s_est (s_r2 e gv s) gv k true = _ from (s_agr_upd s_agr_rfl (by omega)).F.est ((hb2.2.1.kok hs2).2 k hkr.1 hkr.2 hk0)).symm)) ?_
          refine X_vcallv (r_u hi (show s < 6 by omega) updR_eq) l_X3_X9_learn (u_learn hG (d + 6) i hi s (by omega) hjp (by omega)) rfl rfl rfl rfl (Nat.le_of_ble_eq_true rfl) (Nat.le_of_ble_eq_true rfl) (by omega) (Nat.le_of_ble_eq_true rfl) (Nat.le_of_ble_eq_true rfl) ?_
          have eq9 : s_exq e gv s = nI k := by unfold s_exq; rw [if_neg c94, (show (!decide (s_keep e gv s)) = true from congrArg not (decide_eq_false hk))]; exact hch
          have ek9 : (s_exq e gv s).toNatClampNeg = k := by rw [eq9]; exact nI_clamp (by omega)
          have ej9 : (s_rplan e gv s).toNatClampNeg = jc := by rw [hjp]; exact nI_clamp (by omega)
          refine X_heap (N' := cset B J bf K tk ts tl tv su (updR D i (s_ex3 e c gv s))) (congrArg (fun r => cset B J bf K tk ts tl tv su (updR D i r)) (show s_exb e c gv s jc k true = _ by rw [show s_ex3 e c gv s = _ from if_neg (show ¬ s_exq e gv s = -1 by rw [eq9]; exact nI_ne_m1 (by omega)), ek9, ej9, (show (!decide (s_keep e gv s)) = true from congrArg not (decide_eq_false hk))])) ?_
          refine X_ld rfl rfl rfl rfl ?_
          refine X_dup rfl rfl ?_
          refine X_get f_X3_160 rfl (r_u hi (by omega) updR_eq) rfl ?_
          refine X_push (v := .int 1) rfl (by decide +kernel) ?_
          refine X_bin rfl rfl ?_
          refine X_put f_X3_160 rfl (r_u hi (by omega) updR_eq) ⟨rfl, rfl⟩ ?_
          refine X_heap (N' := cset B J bf K tk ts tl tv su (updR D i (upd (s_ex3 e c gv s) (275 + 30 * s + 8) (((s_ex3 e c gv s) (275 + 30 * s + 8)) + 1)))) (w_u (k := 0) hi (by omega) (by decide)) ?_
          exact X_vret rfl rfl ⟨rfl, rfl⟩ (Nat.le_of_ble_eq_true rfl) (Nat.le_of_ble_eq_true rfl)

