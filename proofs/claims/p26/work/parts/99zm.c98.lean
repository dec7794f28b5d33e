/-! ===== the law's wrappers of methods that change something, by program (wip/whole/gen_c98.py) ===== -/
theorem ga_run {t : Nat} {B : XH} {e c gv : Nat → Int32} {o s : Nat} (h : L_lv B t e c o) (hs : s < s_sm e) : L_lv B (t + 1) (s_run e gv s) (s_exc e c gv s) o := by
  have hb := s_run_bun (gv := gv) h.1.1 hs h.2.1
  exact ⟨s_run_inv h.1 hs h.2.1, hb.2.2.2, s_bun_st h.1.1 hb h.2.2.1, fun q hq => by rw [s_exc_lo (by omega)]; exact h.2.2.2 q hq⟩
theorem ga_ins {t : Nat} {B : XH} {e c : Nat → Int32} {v0 v1 v2 v3 v4 : Int32} {o : Nat} (h : L_lv B t e c o) (hl : e 1 < 40) (hc : s_icells e v0 v1 v2 v3 v4) : L_lv B t (s_ins e v0 v1 v2 v3 v4) (s_insc c (s_lm e) v0 v1 v2 v3 v4) o := by
  have h4 := h.1.1.lmE.2
  have hl2 : s_lm e < 40 := by
    rw [h.1.1.lmE.1, show (40 : Int32) = nI 40 from rfl, nI_ltI (by omega) (by omega)] at hl
    exact hl
  have hst : s_stc e (s_ins e v0 v1 v2 v3 v4) := fun k hk => (s_ins_o (by omega) (by omega)).symm
  exact ⟨s_ins_inv h.1 hl2 hc, s_ins_rel h.1 hl2 h.2.1, hst.st h.1.1.cmE.2 h.1.1.smE.2 h.2.2.1, fun q hq => by rw [s_insc_o (by omega) (by omega)]; exact h.2.2.2 q hq⟩
theorem ga_del {t : Nat} {B : XH} {e c : Nat → Int32} {o x : Nat} (h : L_lv B t e c o) (hx : x < s_lm e) : L_lv B t (s_del e x) (s_delc c x (s_lm e)) o := by
  have h4 := h.1.1.lmE.2
  have hst : s_stc e (s_del e x) := fun k hk => (s_del_o (by omega) hx h4 (by omega)).symm
  exact ⟨s_del_inv h.1 hx, s_del_rel h.1 hx h.2.1, hst.st h.1.1.cmE.2 h.1.1.smE.2 h.2.2.1, fun q hq => by rw [s_delc_o (by omega) hx h4 (by omega)]; exact h.2.2.2 q hq⟩
theorem ga_ana {t : Nat} {B : XH} {e c : Nat → Int32} {o : Nat} (h : L_lv B t e c o) : L_lv B t (s_ana e) (upd (s_look c (s_lm e) (s_cm e)) 3 (c 3 + 1)) o := by
  have h5 := h.1.1.cmE.2
  have hst : s_stc e (s_ana e) := s_stc_upd (s_ldd_stc h5) (by omega)
  refine ⟨s_ana_inv h.1, s_ana_rel h.1 h.2.1, hst.st h.1.1.cmE.2 h.1.1.smE.2 h.2.2.1, fun q hq => ?_⟩
  rw [updI_ne (by omega), s_look_o (by omega) _ (fun i hi x x1 x2 => by omega)]
  exact h.2.2.2 q hq
theorem L_lv.up {B : XH} {t : Nat} {e c : Nat → Int32} {o : Nat} (h : L_lv B t e c o) : L_lv B (t + 1) e c o := h.mono (fun _ _ h => h) (by omega)
