/-! ===== the class: a run is what the reference tells ===== -/
theorem s_upd_comm {f : Nat → Int32} {v w : Int32} (a b : Nat) (h : a ≠ b) : upd (upd f a v) b w = upd (upd f b w) a v := by
  funext i
  by_cases h1 : i = b
  · have h2 : ¬ i = a := by omega
    rw [h1, updI_eq, updI_ne (by omega), updI_eq]
  · rw [updI_ne h1]
    by_cases h2 : i = a
    · rw [h2, updI_eq, updI_eq]
    · rw [updI_ne h2, updI_ne h2, updI_ne h1]
theorem s_run_bun {e c gv : Nat → Int32} {s : Nat} (hwf : s_wf e) (hs : s < s_sm e) (hrel : s_rel e c) : s_bun e (s_run e gv s) (s_exc e c gv s) := by
  have hsm6 := hwf.smE.2
  have hb2 := s_bun_2 (gv := gv) hwf hs hrel
  have hs2 : s < s_sm (s_r2 e gv s) := by rw [hb2.1.sm]; exact hs
  have hpl := s_rplan5 (gv := gv) hwf hs
  have hR : s_r3 e gv s = upd (s_r2 e gv s) (275 + 30 * s + 8) (s_st e s 8 + 1) := rfl
  have hag : s_agr (s_r2 e gv s) (s_r3 e gv s) := s_agr_upd s_agr_rfl (by omega)
  have hrel2 := hb2.2.2.2
  have h8 : s_st e s 8 = s_ex2 e c gv s (275 + 30 * s + 8) := (s_r2_8 (gv := gv)).symm.trans (hrel2.2.2.2 s hs2 8 (by omega))
  have h13 : s_st (s_r3 e gv s) s 13 = s_ex2 e c gv s (275 + 30 * s + 13) := (updI_ne (by omega)).trans (hrel2.2.2.2 s hs2 13 (by omega))
  have hq : (if s_rplan e gv s = -1 then -1 else s_chosen (s_r3 e gv s) gv s (s_rplan e gv s) (!decide (s_keep e gv s))) = s_exq e gv s := by
    unfold s_exq
    rw [hag.F.chosen (hb2.2.1.kok hs2)]
  have e1 : s_run e gv s = s_tou1 (s_r3 e gv s) gv s (s_rplan e gv s) (!decide (s_keep e gv s)) (s_exq e gv s) := by
    rw [← hq]
    rfl
  by_cases h : s_exq e gv s = -1
  · have e3 : s_ex3 e c gv s = s_exa e c gv s (s_ex2 e c gv s 1) := if_pos h
    have e8 : s_exa e c gv s (s_ex2 e c gv s 1) (275 + 30 * s + 8) = s_ex2 e c gv s (275 + 30 * s + 8) := updI_ne (by omega)
    have h1 : s_r3 e gv s 1 = s_ex2 e c gv s 1 := (updI_ne (by omega)).trans hrel2.1.1
    rw [e1]
    unfold s_tou1 s_exc
    rw [if_pos h, e3, e8, ← h8, h13, h1, hR, s_upd_comm (275 + 30 * s + 8) (275 + 30 * s + 13) (by omega)]
    exact s_bun_upd hwf (by omega) (by omega) (s_bun_upd hwf (by omega) (by omega) hb2)
  · have hp : ¬ s_rplan e gv s = -1 := fun w => h (if_pos w)
    have hx : s_exq e gv s = s_chosen (s_r2 e gv s) gv s (s_rplan e gv s) (!decide (s_keep e gv s)) := if_neg hp
    obtain ⟨k, ⟨hk1, hk2, hk0, -, -⟩, hk⟩ := (s_chosen_ok (gv := gv) (col := s_rplan e gv s) (z := !decide (s_keep e gv s)) (hb2.2.1.kok hs2)).resolve_left (fun w => h (hx.trans w))
    obtain ⟨-, ht325, -⟩ := s_kok_ft (hb2.2.1.kok hs2)
    obtain ⟨j, hj, hjp⟩ := hpl.resolve_left hp
    have ek : (s_exq e gv s).toNatClampNeg = k := by rw [hx, hk]; exact nI_clamp (by omega)
    have ej : (s_rplan e gv s).toNatClampNeg = j := by rw [hjp]; exact nI_clamp (by omega)
    have hlm := hb2.2.1.lmE.2
    have hT : s_tch (s_r3 e gv s) gv k (s_lm (s_r3 e gv s)) = s_exn e gv s k := by
      unfold s_exn
      rw [hag.F.lm, s_tch_ce, s_tch_ce]
      exact s_ce_cong _ (fun l hl => (hag.F.tru (hb2.2.1.tok hs2 hk1 hk2 hk0) (by omega)).symm)
    have hE : s_est (s_r3 e gv s) gv k (!decide (s_keep e gv s)) = s_est (s_r2 e gv s) gv k (!decide (s_keep e gv s)) := (hag.F.est ((hb2.2.1.kok hs2).2 k hk1 hk2 hk0)).symm
    have e3 : s_ex3 e c gv s = s_exb e c gv s j k (!decide (s_keep e gv s)) := (if_neg h).trans (by rw [ek, ej])
    have e8 : s_exb e c gv s j k (!decide (s_keep e gv s)) (275 + 30 * s + 8) = s_ex2 e c gv s (275 + 30 * s + 8) := (updI_ne (by omega)).trans (updI_ne (by omega))
    have h21 : s_st (s_r3 e gv s) s (21 + j) = s_st (s_exa e c gv s (s_exn e gv s k)) s (21 + j) := (updI_ne (by omega)).trans ((hrel2.2.2.2 s hs2 (21 + j) (by omega)).trans (updI_ne (show 275 + 30 * s + (21 + j) ≠ 275 + 30 * s + 13 by omega)).symm)
    have hL : s_lrn (s_r3 e gv s) gv s j k (!decide (s_keep e gv s)) (s_exn e gv s k) = s_lrnc (s_exa e c gv s (s_exn e gv s k)) s j (s_exn e gv s k) (s_est (s_r2 e gv s) gv k (!decide (s_keep e gv s))) := by
      unfold s_lrn s_lrnc
      rw [hE, h21, x_max_comm 1, x_min_comm 1000]
    rw [e1]
    unfold s_tou1 s_exc
    rw [if_neg h, ek, ej, e3, e8, ← h8, hT, hL, h13, hR, s_upd_comm (275 + 30 * s + 8) (275 + 30 * s + 13) (by omega), s_upd_comm (275 + 30 * s + 8) (275 + 30 * s + (21 + j)) (by omega)]
    exact s_bun_upd hwf (by omega) (by omega) (s_bun_upd (x := 21 + j) hwf (by omega) (by omega) (s_bun_upd hwf (by omega) (by omega) hb2))

