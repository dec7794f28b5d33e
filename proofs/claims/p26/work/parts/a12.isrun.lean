/-! ===== the law's isRun, step (wip/p26/gen_g2.py) ===== -/
/-- the law's cells beside the others -/
def e_B (B0 : XH) (F A C : Nat → Int32) : XH := x_set (x_set (x_set B0 277 (e_A C)) 276 (e_A A)) 275 (e_O F)
theorem e_B_5 {B0 : XH} {F A C : Nat → Int32} : e_B B0 F A C 275 = some (e_O F) := x_set_eq
theorem e_B_6 {B0 : XH} {F A C : Nat → Int32} : e_B B0 F A C 276 = some (e_A A) := (x_set_ne (by decide)).trans x_set_eq
theorem e_B_7 {B0 : XH} {F A C : Nat → Int32} : e_B B0 F A C 277 = some (e_A C) := (x_set_ne (by decide)).trans ((x_set_ne (by decide)).trans x_set_eq)
theorem e_B_o {B0 : XH} {F A C : Nat → Int32} {k : Nat} (h : k < 275 ∨ 277 < k) : e_B B0 F A C k = B0 k := (x_set_ne (by omega)).trans ((x_set_ne (by omega)).trans (x_set_ne (by omega)))
def e_B0 (B0 : XH) : Prop := (B0 0 = none ∧ B0 2 = none) ∧ (B0 275 = none ∧ B0 276 = none ∧ B0 277 = none) ∧ v_at B0 (fun _ => -1) 1
theorem e_B_le {B0 : XH} {F A C : Nat → Int32} (h : e_B0 B0) : y_le B0 (e_B B0 F A C) := fun k c hk => by
  by_cases h1 : k < 275 ∨ 277 < k
  · rw [e_B_o h1]; exact hk
  · obtain ⟨-, ⟨h5, h6, h7⟩, -⟩ := h
    rcases (show k = 275 ∨ k = 276 ∨ k = 277 by omega) with rfl | rfl | rfl
    · rw [h5] at hk; cases hk
    · rw [h6] at hk; cases hk
    · rw [h7] at hk; cases hk
theorem e_B_set {B0 : XH} {F F' A C : Nat → Int32} : x_set (e_B B0 F A C) 275 (e_O F') = e_B B0 F' A C := x_set_set
theorem e_B_setA {B0 : XH} {F A A' C : Nat → Int32} : x_set (e_B B0 F A C) 276 (e_A A') = e_B B0 F A' C := by
  unfold e_B
  funext k
  by_cases h5 : k = 275
  · subst h5
    rw [x_set_ne (by decide), x_set_eq, x_set_eq]
  · by_cases h6 : k = 276
    · subst h6
      rw [x_set_eq, x_set_ne (by decide), x_set_eq]
    · rw [x_set_ne h6, x_set_ne h5, x_set_ne h6, x_set_ne h5, x_set_ne h6]
theorem e_B_setC {B0 : XH} {F A C C' : Nat → Int32} : x_set (e_B B0 F A C) 277 (e_A C') = e_B B0 F A C' := by
  unfold e_B
  funext k
  by_cases h5 : k = 275
  · subst h5
    rw [x_set_ne (by decide), x_set_eq, x_set_eq]
  · by_cases h6 : k = 276
    · subst h6
      rw [x_set_ne (by decide), x_set_ne (by decide), x_set_eq, x_set_ne (by decide), x_set_eq]
    · by_cases h7 : k = 277
      · subst h7
        rw [x_set_eq, x_set_ne (by decide), x_set_ne (by decide), x_set_eq]
      · rw [x_set_ne h7, x_set_ne h5, x_set_ne h6, x_set_ne h7, x_set_ne h5, x_set_ne h6, x_set_ne h7]
section EBC
variable {B0 : XH} {F F' A A' C C' J bf K tk ts : Nat → Int32} {tl : Int64} {tv : Nat → Int64} {su : Nat → Nat} {D : Nat → Nat → Int32}
theorem e_C_F : e_N (cset (e_B B0 F A C) J bf K tk ts tl tv su D) F' = cset (e_B B0 F' A C) J bf K tk ts tl tv su D := (y_set (c := e_O F') (show s_out 275 from ⟨by decide, by decide⟩)).trans (congrArg (fun z => cset z J bf K tk ts tl tv su D) e_B_set)
theorem e_C_A {k : Nat} {x : Int32} : x_set (cset (e_B B0 F A C) J bf K tk ts tl tv su D) 276 (.inr (true, .int, 40, updV (fun j => .int (A j)) k (.int x))) = cset (e_B B0 F (upd A k x) C) J bf K tk ts tl tv su D := by
  rw [updV_int]
  exact (y_set (c := e_A (upd A k x)) (show s_out 276 from ⟨by decide, by decide⟩)).trans (congrArg (fun z => cset z J bf K tk ts tl tv su D) e_B_setA)
theorem e_C_C {k : Nat} {x : Int32} : x_set (cset (e_B B0 F A C) J bf K tk ts tl tv su D) 277 (.inr (true, .int, 40, updV (fun j => .int (C j)) k (.int x))) = cset (e_B B0 F A (upd C k x)) J bf K tk ts tl tv su D := by
  rw [updV_int]
  exact (y_set (c := e_A (upd C k x)) (show s_out 277 from ⟨by decide, by decide⟩)).trans (congrArg (fun z => cset z J bf K tk ts tl tv su D) e_B_setC)
theorem e_C_5 : (cset (e_B B0 F A C) J bf K tk ts tl tv su D) 275 = some (e_O F) := c_B ⟨by decide, by decide⟩ e_B_5
theorem e_C_6 : (cset (e_B B0 F A C) J bf K tk ts tl tv su D) 276 = some (e_A A) := c_B ⟨by decide, by decide⟩ e_B_6
theorem e_C_7 : (cset (e_B B0 F A C) J bf K tk ts tl tv su D) 277 = some (e_A C) := c_B ⟨by decide, by decide⟩ e_B_7
end EBC
/-- the class and the law between two steps -/
def e_S (B0 : XH) (l : Bool) (o t : Nat) (N : XH) : Prop := ∃ (F A C J bf K tk ts : Nat → Int32) (tl : Int64) (tv : Nat → Int64) (su : Nat → Nat) (D : Nat → Nat → Int32) (w : Nat) (e : Nat → Int32), N = cset (e_B B0 F A C) J bf K tk ts tl tv su D ∧ (J 5 = nI w ∧ w < 10) ∧ md e F A C l o ∧ L_lv B0 t e (D w) (su w) ∧ e_kp F
def e_Q (B0 : XH) (l : Bool) (o t : Nat) : XH → Option Value → Prop := fun N r => r = some (.int 1) ∧ e_S B0 l o t N
theorem lg_self (x : Int64) : lg_cmp x x = 0 := by
  unfold lg_cmp
  rw [if_neg (Int64.lt_irrefl), if_pos rfl]
theorem s_n10_ne {w : Nat} (h : w < 10) : w ≠ s_n10 w := by
  unfold s_n10
  omega
theorem s_me_no {E : Nat → Bool} {k : Nat} (h : E k = false) : s_me E (k + 1) = s_me E k := by
  show s_me E k ||| (bif E k then s_bit k else 0) = _
  rw [h]
  exact Int64.or_zero
theorem s_ce_no {E : Nat → Bool} {k : Nat} (h : E k = false) : s_ce E (k + 1) = s_ce E k := by
  show s_ce E k + (bif E k then 1 else 0) = _
  rw [h]
  exact Int32.add_zero _
theorem s_me_yes {E : Nat → Bool} {k : Nat} (h : E k = true) : s_me E (k + 1) = s_me E k ||| (1 <<< ((nI k).toInt64 &&& 63)) := by
  show s_me E k ||| (bif E k then s_bit k else 0) = _
  rw [h]
  rfl
theorem s_ce_yes {E : Nat → Bool} {k : Nat} (h : E k = true) : s_ce E (k + 1) = s_ce E k + 1 := by
  show s_ce E k + (bif E k then 1 else 0) = _
  rw [h]
  rfl
theorem e_bnd_lt (x : Int32) {n : Nat} {y : Int32} (hy : y = nI n) (h0 : 0 < n) (hn : n < 1000) : ∃ r, r < n ∧ e_bnd x y = nI r := by
  have e1 : x &&& 2147483647 = nI (x.toBitVec.toNat % 2 ^ 31) := pk_and x 31 (by decide)
  have hm : x.toBitVec.toNat % 2 ^ 31 < 2147483648 := Nat.mod_lt _ (by decide)
  unfold e_bnd
  rw [e1, hy]
  generalize x.toBitVec.toNat % 2 ^ 31 = m at hm ⊢
  refine ⟨m % n, Nat.mod_lt _ h0, ?_⟩
  rw [pk_div (by omega) h0 (by omega), pk_mul, pk_sub (Nat.div_mul_le_self m n)]
  have h1 := Nat.div_add_mod m n
  rw [Nat.mul_comm] at h1
  exact congrArg nI (by omega)
theorem md.vgr {e F A C : Nat → Int32} {l : Bool} {o vv : Nat} (h : md e F A C l o) (hv : vv < 14) : s_vgr e 0 (nI vv) 0 0 0 := by
  unfold s_vgr
  rw [show s_st e 0 17 = 0 from h.f292, show s_st e 0 18 = -1 from h.f293, show s_st e 0 19 = -1 from h.f294, show s_st e 0 20 = -1 from h.f295]
  exact ⟨⟨nI_ge0 (by omega), (nI_leI (b := 9999) (by omega) (by decide)).mpr (by omega)⟩, by decide, by decide, by decide⟩
theorem md.ivr {e F A C : Nat → Int32} {l : Bool} {o vv uu : Nat} (h : md e F A C l o) (hv : vv < 14) (hu : uu < 14) : s_ivr e (nI vv) (nI uu) 0 0 0 := by
  unfold s_ivr s_ty
  rw [h.cm, if_pos (by decide), if_pos (by decide), if_neg (by decide), if_neg (by decide), if_neg (by decide), show s_col e 0 8 = 0 from h.f18, show s_col e 1 8 = 0 from h.f31]
  exact ⟨⟨nI_ge0 (by omega), (nI_leI (b := 9999) (by omega) (by decide)).mpr (by omega)⟩, ⟨nI_ge0 (by omega), (nI_leI (b := 9999) (by omega) (by decide)).mpr (by omega)⟩, by decide, by decide, by decide⟩
theorem v_isRun {G : XE} (hG : x_Kn G) (hX : x_KX G) (hK : x_KS G) {B0 : XH} (hB : e_B0 B0) {F A C J bf K tk ts : Nat → Int32} {tl : Int64} {tv : Nat → Int64} {su : Nat → Nat} {D : Nat → Nat → Int32} (d w : Nat) (hw : J 5 = nI w) (hw10 : w < 10) {e : Nat → Int32} {l : Bool} {oo t : Nat} (hm : md e F A C l oo) (hl : L_lv B0 t e (D w) (su w)) (hk : e_kp F) (ht : t ≤ 511) {vv : Nat} (hv : vv < 14) : x_M G mL_isRun (d + 60) 90 500 [.ref 275, .ref 64, .int (nI vv), .int (b2 l), .int (nI oo)] (cset (e_B B0 F A C) J bf K tk ts tl tv su D) (e_Q B0 l oo (t + 1)) x_noX := by
  refine X_M hG okL_isRun rfl (L := [some (.ref 275), some (.ref 64), some (.int (nI vv)), some (.int (b2 l)), some (.int (nI oo)), none, none, none, none, none, none]) rfl (Nat.le_of_ble_eq_true rfl) (fun ad0 nb0 => ?_)
  have hi := hl.1
  have hwf := hi.1
  have hrel := hl.2.1
  have hbl := hl.2.2.2
  have hst : st_at (e_B B0 F A C) e (su w) := y_le.st (e_B_le hB) hl.2.2.1
  have h0 : e_B B0 F A C 0 = none := (e_B_o (by decide)).trans hB.1.1
  have hns : v_at (e_B B0 F A C) (fun _ => -1) 1 := y_le.v (e_B_le hB) hB.2.2
  have hs1 : 0 < s_sm e := by rw [hm.sm]; decide
  have hs : (0 : Int32) ≤ 0 ∧ (0 : Int32) < nI (s_sm e) := by rw [hm.sm]; decide
  have hp0 : (-1 : Int32) ≤ 0 ∧ (0 : Int32) < e 0 := by rw [hm.f0]; decide
  have hp1 : (-1 : Int32) ≤ 1 ∧ (1 : Int32) < e 0 := by rw [hm.f0]; decide
  have hpm : (-1 : Int32) ≤ -1 ∧ (-1 : Int32) < e 0 := by rw [hm.f0]; decide
  have hvg := hm.vgr hv
  have hdv := hm.div hi
  have ht2 : t ≤ 512 := by omega
  have rest : ∀ (su2 : Nat → Nat) (D2 : Nat → Nat → Int32), su2 w = su w → D2 w = D w → x_W G mL_isRun (x_Z G (d + 60) 90 500 ad0 nb0 (e_Q B0 l oo (t + 1)) x_noX) (cset (e_B B0 F A C) J bf K tk ts tl tv su2 D2) 25 144 107 [some (.ref 275), some (.ref 64), some (.int (nI vv)), some (.int (b2 l)), some (.int (nI oo)), some (.int (e_est F (nI vv) true l)), some (.int (e_est F (nI vv) false l)), none, none, none, none] [.int (e_used F (e_est F (nI vv) true l) (e_est F (nI vv) false l))] := fun su2 D2 es eD => by
    have hl2 : L_lv B0 t e (D2 w) (su2 w) := by rw [es, eD]; exact hl
    have hrel2 := hl2.2.1
    have hst2 : st_at (e_B B0 F A C) e (su2 w) := y_le.st (e_B_le hB) hl2.2.2.1
    obtain ⟨hm1, hm2, -⟩ := hm.lm
    refine X_ld rfl rfl rfl rfl ?_
    refine X_ld rfl rfl rfl rfl ?_
    refine X_ld rfl rfl rfl rfl ?_
    refine X_vcall e_C_5 l_L_L_used (v_used hG d e_C_5) rfl rfl rfl rfl (Nat.le_of_ble_eq_true rfl) (Nat.le_of_ble_eq_true rfl) (by omega) (Nat.le_of_ble_eq_true rfl) (Nat.le_of_ble_eq_true rfl) ?_
    refine X_icmp_eq rfl (fun _ => ?_) (fun c => absurd rfl c)
    have after : x_W G mL_isRun (x_Z G (d + 60) 90 500 ad0 nb0 (e_Q B0 l oo (t + 1)) x_noX) (cset (e_B B0 F A C) J bf K tk ts tl tv su2 D2) 25 144 197 [some (.ref 275), some (.ref 64), some (.int (nI vv)), some (.int (b2 l)), some (.int (nI oo)), some (.int (e_est F (nI vv) true l)), some (.int (e_est F (nI vv) false l)), some (.long (s_me (e_hit A C (nI vv) l oo) (s_lm e))), none, some (.int (s_ce (e_hit A C (nI vv) l oo) (s_lm e))), some (.int (nI (s_lm e)))] [] := by
      refine X_ld rfl rfl rfl rfl ?_
      refine X_push (v := .int 0) rfl (by decide +kernel) ?_
      refine X_ld rfl rfl rfl rfl ?_
      refine X_push (v := .int 0) rfl (by decide +kernel) ?_
      refine X_push (v := .int 0) rfl (by decide +kernel) ?_
      refine X_push (v := .int 0) rfl (by decide +kernel) ?_
      refine X_vcallX c_O l_L_X10_rows (m_rows hG hX d w hw hw10 h0 hst2 hwf hrel2 (x := 0) (v0 := nI vv) (v1 := 0) (v2 := 0) (v3 := 0)) rfl rfl rfl rfl (Nat.le_of_ble_eq_true rfl) (Nat.le_of_ble_eq_true rfl) (by omega) (Nat.le_of_ble_eq_true rfl) (Nat.le_of_ble_eq_true rfl) rfl (fun N9 E9 h9 => (h9.2.elim (fun q => absurd hs q.1) (fun q => absurd hvg q.2.1))) (fun N9 r9 h9 => ?_)
      obtain ⟨-, rfl, rfl⟩ := h9
      refine X_stk (st' := [.long (s_me (e_hit A C (nI vv) l oo) (s_lm e))]) (congrArg (fun z => [Value.long z]) (hm.rws (gv := (s_gv (nI vv) 0 0 0)) (s_lm e) (Nat.le_refl _))) ?_
      refine X_ld rfl rfl rfl rfl ?_
      refine X_bin rfl rfl ?_
      refine X_stk (st' := [.int 0]) (congrArg (fun z => [Value.int z]) (lg_self _)) ?_
      refine X_if_eq rfl (fun _ => ?_) (fun c => absurd rfl c)
      refine X_ld rfl rfl rfl rfl ?_
      refine X_ld rfl rfl rfl rfl ?_
      refine X_ld rfl rfl rfl rfl ?_
      refine X_heap (e_N_self e_C_5) ?_
      refine X_vcallv x_set_eq l_L_L_run (v_run hG d e_C_6 hm1 hm2 hk hdv) rfl rfl rfl rfl (Nat.le_of_ble_eq_true rfl) (Nat.le_of_ble_eq_true rfl) (by omega) (Nat.le_of_ble_eq_true rfl) (Nat.le_of_ble_eq_true rfl) ?_
      refine X_heap e_C_F ?_
      have hm9 : md (s_run e (s_gv (nI vv) 0 0 0) 0) (e_run F A (nI vv) l (e_est F (nI vv) true l) (e_est F (nI vv) false l) (s_lm e)) A C l oo := hm.run (gv := (s_gv (nI vv) 0 0 0)) hi ht2 hk
      have hst3 : st_at (e_B B0 (e_run F A (nI vv) l (e_est F (nI vv) true l) (e_est F (nI vv) false l) (s_lm e)) A C) e (su2 w) := y_le.st (e_B_le hB) hl2.2.2.1
      refine X_ld rfl rfl rfl rfl ?_
      refine X_push (v := .int 0) rfl (by decide +kernel) ?_
      refine X_ld rfl rfl rfl rfl ?_
      refine X_push (v := .int 0) rfl (by decide +kernel) ?_
      refine X_push (v := .int 0) rfl (by decide +kernel) ?_
      refine X_push (v := .int 0) rfl (by decide +kernel) ?_
      refine X_vcallX c_O l_L_X10_run (m_run hG hX hK d w hw hw10 ((e_B_o (by decide)).trans hB.1.1) hst3 hwf hrel2 (x := 0) (v0 := nI vv) (v1 := 0) (v2 := 0) (v3 := 0) hl2.2.2.2 (y_le.v (e_B_le hB) hB.2.2) (fun s gv hs => s_hov ht2 hi hs)) rfl rfl rfl rfl (Nat.le_of_ble_eq_true rfl) (Nat.le_of_ble_eq_true rfl) (by omega) (Nat.le_of_ble_eq_true rfl) (Nat.le_of_ble_eq_true rfl) rfl (fun N9 E9 h9 => (h9.2.elim (fun q => absurd hs q.1) (fun q => absurd hvg q.2.1))) (fun N9 r9 h9 => ?_)
      obtain ⟨-, rfl, rfl⟩ := h9
      refine X_stk (st' := [.int (s_ce (e_hit A C (nI vv) l oo) (s_lm e))]) (congrArg (fun z => [Value.int z]) (hm.cnt (gv := (s_gv (nI vv) 0 0 0)) (s_lm e) (Nat.le_refl _))) ?_
      refine X_ld rfl rfl rfl rfl ?_
      refine X_icmp_ne rfl (fun c => absurd rfl c) (fun _ => ?_)
      refine X_ld rfl rfl rfl rfl ?_
      refine X_ld rfl rfl rfl rfl ?_
      have hl9 : L_lv B0 (t + 1) (s_run e (s_gv (nI vv) 0 0 0) 0) (updR D2 (s_n10 w) (s_exc e (D2 w) (s_gv (nI vv) 0 0 0) (n_ 0)) (s_n10 w)) (updN su2 (s_n10 w) (su2 w) (s_n10 w)) := by
        rw [updR_eq, updN_eq]
        exact ga_run hl2 hs1
      have hw9 : upd (upd J 5 (nI (s_n10 w))) 6 (x_min (J 6 + 1) 8) 5 = nI (s_n10 w) := rfl
      refine X_vcall e_C_5 l_L_L_isAlike (v_alike hG hX d (s_n10 w) hw9 s_n10_lt hm9 hl9 (e_B_le hB) e_B_5) rfl rfl rfl rfl (Nat.le_of_ble_eq_true rfl) (Nat.le_of_ble_eq_true rfl) (by omega) (Nat.le_of_ble_eq_true rfl) (Nat.le_of_ble_eq_true rfl) ?_
      refine X_if_eq rfl (fun c => absurd c (by decide)) (fun _ => ?_)
      refine X_push (v := .int 1) rfl (by decide +kernel) ?_
      refine X_goto rfl ?_
      exact X_zret rfl rfl rfl ⟨rfl, _, _, _, _, _, _, _, _, _, _, _, _, _, _, rfl, ⟨hw9, s_n10_lt⟩, hm9, hl9, e_run_kp hk⟩ (Nat.le_of_ble_eq_true rfl) (Nat.le_of_ble_eq_true rfl)
    have loop : ∀ f k, k + f = s_lm e → x_W G mL_isRun (x_Z G (d + 60) 90 500 ad0 nb0 (e_Q B0 l oo (t + 1)) x_noX) (cset (e_B B0 F A C) J bf K tk ts tl tv su2 D2) 25 144 129 [some (.ref 275), some (.ref 64), some (.int (nI vv)), some (.int (b2 l)), some (.int (nI oo)), some (.int (e_est F (nI vv) true l)), some (.int (e_est F (nI vv) false l)), some (.long (s_me (e_hit A C (nI vv) l oo) k)), none, some (.int (s_ce (e_hit A C (nI vv) l oo) k)), some (.int (nI k))] [] := fun f => by
      induction f with
      | zero =>
        intro k e0
        obtain rfl : k = s_lm e := by omega
        refine X_ld rfl rfl rfl rfl ?_
        refine X_ld rfl rfl rfl rfl ?_
        refine X_get f_L_44 rfl e_C_5 rfl ?_
        exact X_icmp_ge rfl (fun _ => after) (fun c => absurd ((n_le (show F (0 + 2) = nI (s_lm e) from hm1) rfl (by omega) (by omega)).mpr (Nat.le_refl _)) c)
      | succ f ih =>
        intro k e0
        refine X_ld rfl rfl rfl rfl ?_
        refine X_ld rfl rfl rfl rfl ?_
        refine X_get f_L_44 rfl e_C_5 rfl ?_
        refine X_icmp_ge rfl (fun c => absurd ((n_le (show F (0 + 2) = nI (s_lm e) from hm1) rfl (by omega) (by omega)).mp c) (by omega)) (fun _ => ?_)
        have skip : (e_hit A C (nI vv) l oo) k = false → x_W G mL_isRun (x_Z G (d + 60) 90 500 ad0 nb0 (e_Q B0 l oo (t + 1)) x_noX) (cset (e_B B0 F A C) J bf K tk ts tl tv su2 D2) 25 144 191 [some (.ref 275), some (.ref 64), some (.int (nI vv)), some (.int (b2 l)), some (.int (nI oo)), some (.int (e_est F (nI vv) true l)), some (.int (e_est F (nI vv) false l)), some (.long (s_me (e_hit A C (nI vv) l oo) k)), none, some (.int (s_ce (e_hit A C (nI vv) l oo) k)), some (.int (nI k))] [] := fun hn => by
          refine X_iinc rfl rfl rfl ?_
          refine X_goto rfl ?_
          refine X_loc (L' := [some (.ref 275), some (.ref 64), some (.int (nI vv)), some (.int (b2 l)), some (.int (nI oo)), some (.int (e_est F (nI vv) true l)), some (.int (e_est F (nI vv) false l)), some (.long (s_me (e_hit A C (nI vv) l oo) (k + 1))), none, some (.int (s_ce (e_hit A C (nI vv) l oo) (k + 1))), some (.int (nI (k + 1)))]) ⟨rfl, rfl, rfl, rfl, rfl, rfl, rfl, congrArg Value.long (s_me_no hn), congrArg Value.int (s_ce_no hn), congrArg Value.int (m_inc rfl).symm, trivial⟩ ?_
          exact ih (k + 1) (by omega)
        have hit : (bif l then decide (A k < nI vv) else decide (A k = nI vv)) = true → x_W G mL_isRun (x_Z G (d + 60) 90 500 ad0 nb0 (e_Q B0 l oo (t + 1)) x_noX) (cset (e_B B0 F A C) J bf K tk ts tl tv su2 D2) 25 144 167 [some (.ref 275), some (.ref 64), some (.int (nI vv)), some (.int (b2 l)), some (.int (nI oo)), some (.int (e_est F (nI vv) true l)), some (.int (e_est F (nI vv) false l)), some (.long (s_me (e_hit A C (nI vv) l oo) k)), none, some (.int (s_ce (e_hit A C (nI vv) l oo) k)), some (.int (nI k))] [] := fun hy => by
          refine X_ld rfl rfl rfl rfl ?_
          refine X_get f_L_13 rfl e_C_5 rfl ?_
          refine X_ld rfl rfl rfl rfl ?_
          refine X_iald rfl e_C_7 (vp_in_nI (by omega) (by omega)) (v := .int (C k)) (by rw [nI_clamp (by omega)]) ?_
          refine X_ld rfl rfl rfl rfl ?_
          refine X_icmp_eq rfl (fun c => skip ?_) (fun c => ?_)
          · unfold e_hit
            rw [hy, decide_eq_true c]
            rfl
          · have hh : (e_hit A C (nI vv) l oo) k = true := by unfold e_hit; rw [hy, decide_eq_false c]; rfl
            refine X_ld rfl rfl rfl rfl ?_
            refine X_push (v := .long 1) rfl (by decide +kernel) ?_
            refine X_ld rfl rfl rfl rfl ?_
            refine X_bin rfl rfl ?_
            refine X_bin rfl rfl ?_
            refine X_stl rfl rfl rfl ?_
            refine X_iinc rfl rfl rfl ?_
            refine X_iinc rfl rfl rfl ?_
            refine X_goto rfl ?_
            refine X_loc (L' := [some (.ref 275), some (.ref 64), some (.int (nI vv)), some (.int (b2 l)), some (.int (nI oo)), some (.int (e_est F (nI vv) true l)), some (.int (e_est F (nI vv) false l)), some (.long (s_me (e_hit A C (nI vv) l oo) (k + 1))), none, some (.int (s_ce (e_hit A C (nI vv) l oo) (k + 1))), some (.int (nI (k + 1)))]) ⟨rfl, rfl, rfl, rfl, rfl, rfl, rfl, congrArg Value.long (s_me_yes hh), congrArg Value.int (s_ce_yes hh), congrArg Value.int (m_inc rfl).symm, trivial⟩ ?_
            exact ih (k + 1) (by omega)
        refine X_ld rfl rfl rfl rfl ?_
        refine X_if_eq rfl (fun cl => ?_) (fun cl => ?_)
        · have el := b2_0 cl
          subst el
          refine X_ld rfl rfl rfl rfl ?_
          refine X_get f_L_7 rfl e_C_5 rfl ?_
          refine X_ld rfl rfl rfl rfl ?_
          refine X_iald rfl e_C_6 (vp_in_nI (by omega) (by omega)) (v := .int (A k)) (by rw [nI_clamp (by omega)]) ?_
          refine X_ld rfl rfl rfl rfl ?_
          refine X_icmp_ne rfl (fun c2 => skip ?_) (fun c2 => hit (decide_eq_true c2))
          unfold e_hit
          rw [show (bif false then decide (A k < nI vv) else decide (A k = nI vv)) = false from decide_eq_false c2]
          rfl
        · have el := b2_1 cl
          subst el
          refine X_ld rfl rfl rfl rfl ?_
          refine X_get f_L_7 rfl e_C_5 rfl ?_
          refine X_ld rfl rfl rfl rfl ?_
          refine X_iald rfl e_C_6 (vp_in_nI (by omega) (by omega)) (v := .int (A k)) (by rw [nI_clamp (by omega)]) ?_
          refine X_ld rfl rfl rfl rfl ?_
          refine X_icmp_ge rfl (fun c2 => skip ?_) (fun c2 => ?_)
          · unfold e_hit
            rw [show (bif true then decide (A k < nI vv) else decide (A k = nI vv)) = false from decide_eq_false (Int32.not_lt.mpr c2)]
            rfl
          · refine X_goto rfl ?_
            exact hit (decide_eq_true (Int32.not_le.mp c2))
    refine X_push (v := .long 0) rfl (by decide +kernel) ?_
    refine X_stl rfl rfl rfl ?_
    refine X_push (v := .int 0) rfl (by decide +kernel) ?_
    refine X_st rfl rfl rfl ?_
    refine X_push (v := .int 0) rfl (by decide +kernel) ?_
    refine X_st rfl rfl rfl ?_
    refine X_loc (L' := [some (.ref 275), some (.ref 64), some (.int (nI vv)), some (.int (b2 l)), some (.int (nI oo)), some (.int (e_est F (nI vv) true l)), some (.int (e_est F (nI vv) false l)), some (.long (s_me (e_hit A C (nI vv) l oo) 0)), none, some (.int (s_ce (e_hit A C (nI vv) l oo) 0)), some (.int (nI 0))]) ⟨rfl, rfl, rfl, rfl, rfl, rfl, rfl, rfl, rfl, rfl, trivial⟩ ?_
    exact loop (s_lm e) 0 (Nat.zero_add _)
  refine X_ld rfl rfl rfl rfl ?_
  refine X_ld rfl rfl rfl rfl ?_
  refine X_push (v := .int 1) rfl (by decide +kernel) ?_
  refine X_ld rfl rfl rfl rfl ?_
  refine X_vcall e_C_5 l_L_L_estimate (v_est hG d e_C_5 (v := nI vv) (z := true) (l := l) hdv) rfl rfl rfl rfl (Nat.le_of_ble_eq_true rfl) (Nat.le_of_ble_eq_true rfl) (by omega) (Nat.le_of_ble_eq_true rfl) (Nat.le_of_ble_eq_true rfl) ?_
  refine X_st rfl rfl rfl ?_
  refine X_ld rfl rfl rfl rfl ?_
  refine X_ld rfl rfl rfl rfl ?_
  refine X_push (v := .int 0) rfl (by decide +kernel) ?_
  refine X_ld rfl rfl rfl rfl ?_
  refine X_vcall e_C_5 l_L_L_estimate (v_est hG d e_C_5 (v := nI vv) (z := false) (l := l) hdv) rfl rfl rfl rfl (Nat.le_of_ble_eq_true rfl) (Nat.le_of_ble_eq_true rfl) (by omega) (Nat.le_of_ble_eq_true rfl) (Nat.le_of_ble_eq_true rfl) ?_
  refine X_st rfl rfl rfl ?_
  refine X_ld rfl rfl rfl rfl ?_
  refine X_push (v := .int 0) rfl (by decide +kernel) ?_
  refine X_push (v := .int 0) rfl (by decide +kernel) ?_
  refine X_vcallX c_O l_L_X10_genericCost (m_genericCost hG hX hK d w hw hw10 (gv := (s_gv (nI vv) 0 0 0)) hst hwf (x := 0) (y := 0) hrel hns) rfl rfl rfl rfl (Nat.le_of_ble_eq_true rfl) (Nat.le_of_ble_eq_true rfl) (by omega) (Nat.le_of_ble_eq_true rfl) (Nat.le_of_ble_eq_true rfl) rfl (fun N9 E9 h9 => (h9.2.elim (fun q => absurd hs q.1) (fun q => absurd hp0 q.2.1))) (fun N9 r9 h9 => ?_)
  obtain ⟨-, rfl, rfl⟩ := h9
  refine X_stk (st' := [.int (e_cost F (e_est F (nI vv) false l))]) (congrArg (fun z => [Value.int z]) (hm.cost0 (gv := (s_gv (nI vv) 0 0 0)) (z := false))) ?_
  refine X_ld rfl rfl rfl rfl ?_
  refine X_ld rfl rfl rfl rfl ?_
  refine X_vcall e_C_5 l_L_L_cost (v_cost hG d e_C_5) rfl rfl rfl rfl (Nat.le_of_ble_eq_true rfl) (Nat.le_of_ble_eq_true rfl) (by omega) (Nat.le_of_ble_eq_true rfl) (Nat.le_of_ble_eq_true rfl) ?_
  refine X_icmp_ne rfl (fun c => absurd rfl c) (fun _ => ?_)
  refine X_ld rfl rfl rfl rfl ?_
  refine X_push (v := .int 0) rfl (by decide +kernel) ?_
  refine X_push (v := .int (-1)) rfl (by decide +kernel) ?_
  refine X_vcallX c_O l_L_X10_genericCost (m_genericCost hG hX hK d w hw hw10 (gv := (s_gv (nI vv) 0 0 0)) hst hwf (x := 0) (y := (-1)) hrel hns) rfl rfl rfl rfl (Nat.le_of_ble_eq_true rfl) (Nat.le_of_ble_eq_true rfl) (by omega) (Nat.le_of_ble_eq_true rfl) (Nat.le_of_ble_eq_true rfl) rfl (fun N9 E9 h9 => (h9.2.elim (fun q => absurd hs q.1) (fun q => absurd hpm q.2.1))) (fun N9 r9 h9 => ?_)
  obtain ⟨-, rfl, rfl⟩ := h9
  refine X_stk (st' := [.int (F 8 * F 3)]) (congrArg (fun z => [Value.int z]) (hm.scan (gv := (s_gv (nI vv) 0 0 0)) (z := false))) ?_
  refine X_ld rfl rfl rfl rfl ?_
  refine X_get f_L_77 rfl e_C_5 rfl ?_
  refine X_ld rfl rfl rfl rfl ?_
  refine X_get f_L_47 rfl e_C_5 rfl ?_
  refine X_bin rfl rfl ?_
  refine X_icmp_ne rfl (fun c => absurd rfl c) (fun _ => ?_)
  refine X_ld rfl rfl rfl rfl ?_
  refine X_push (v := .int 0) rfl (by decide +kernel) ?_
  refine X_push (v := .int 1) rfl (by decide +kernel) ?_
  refine X_vcallX c_O l_L_X10_genericCost (m_genericCost hG hX hK d w hw hw10 (gv := (s_gv (nI vv) 0 0 0)) hst hwf (x := 0) (y := 1) hrel hns) rfl rfl rfl rfl (Nat.le_of_ble_eq_true rfl) (Nat.le_of_ble_eq_true rfl) (by omega) (Nat.le_of_ble_eq_true rfl) (Nat.le_of_ble_eq_true rfl) rfl (fun N9 E9 h9 => (h9.2.elim (fun q => absurd hs q.1) (fun q => absurd hp1 q.2.1))) (fun N9 r9 h9 => ?_)
  obtain ⟨-, rfl, rfl⟩ := h9
  refine X_stk (st' := [.int (-1)]) (congrArg (fun z => [Value.int z]) (hm.cost1 (gv := (s_gv (nI vv) 0 0 0)) (z := false))) ?_
  refine X_push (v := .int (-1)) rfl (by decide +kernel) ?_
  refine X_icmp_ne rfl (fun c => absurd rfl c) (fun _ => ?_)
  refine X_ld rfl rfl rfl rfl ?_
  refine X_push (v := .int 0) rfl (by decide +kernel) ?_
  refine X_push (v := .int 0) rfl (by decide +kernel) ?_
  refine X_ld rfl rfl rfl rfl ?_
  refine X_push (v := .int 0) rfl (by decide +kernel) ?_
  refine X_push (v := .int 0) rfl (by decide +kernel) ?_
  refine X_push (v := .int 0) rfl (by decide +kernel) ?_
  refine X_vcallX c_O l_L_X10_specialCost (m_specialCost hG hX d w hw hw10 h0 hst hwf hrel (y := 0) (x := 0) (v0 := nI vv) (v1 := 0) (v2 := 0) (v3 := 0)) rfl rfl rfl rfl (Nat.le_of_ble_eq_true rfl) (Nat.le_of_ble_eq_true rfl) (by omega) (Nat.le_of_ble_eq_true rfl) (Nat.le_of_ble_eq_true rfl) rfl (fun N9 E9 h9 => (h9.2.elim (fun q => absurd hs q.1) (fun q => absurd (show _ ∧ _ from ⟨hvg, hp0⟩) q.2.1))) (fun N9 r9 h9 => ?_)
  obtain ⟨-, rfl, rfl⟩ := h9
  refine X_stk (st' := [.int (e_cost F (e_est F (nI vv) true l))]) (congrArg (fun z => [Value.int z]) (hm.cost0 (gv := (s_gv (nI vv) 0 0 0)) (z := true))) ?_
  refine X_ld rfl rfl rfl rfl ?_
  refine X_ld rfl rfl rfl rfl ?_
  refine X_vcall e_C_5 l_L_L_cost (v_cost hG d e_C_5) rfl rfl rfl rfl (Nat.le_of_ble_eq_true rfl) (Nat.le_of_ble_eq_true rfl) (by omega) (Nat.le_of_ble_eq_true rfl) (Nat.le_of_ble_eq_true rfl) ?_
  refine X_icmp_ne rfl (fun c => absurd rfl c) (fun _ => ?_)
  refine X_ld rfl rfl rfl rfl ?_
  refine X_push (v := .int 0) rfl (by decide +kernel) ?_
  refine X_ld rfl rfl rfl rfl ?_
  refine X_push (v := .int 0) rfl (by decide +kernel) ?_
  refine X_push (v := .int 0) rfl (by decide +kernel) ?_
  refine X_push (v := .int 0) rfl (by decide +kernel) ?_
  refine X_vcallX c_O l_L_X10_special (m_special hG hX d w hw hw10 h0 hst hwf hrel (x := 0) (v0 := nI vv) (v1 := 0) (v2 := 0) (v3 := 0)) rfl rfl rfl rfl (Nat.le_of_ble_eq_true rfl) (Nat.le_of_ble_eq_true rfl) (by omega) (Nat.le_of_ble_eq_true rfl) (Nat.le_of_ble_eq_true rfl) rfl (fun N9 E9 h9 => (h9.2.elim (fun q => absurd hs q.1) (fun q => absurd hvg q.2.1))) (fun N9 r9 h9 => ?_)
  obtain ⟨-, rfl, rfl⟩ := h9
  refine X_stk (st' := [.int (e_plan F (e_est F (nI vv) true l))]) (congrArg (fun z => [Value.int z]) (hm.best (gv := (s_gv (nI vv) 0 0 0)) (z := true) hi)) ?_
  refine X_ld rfl rfl rfl rfl ?_
  refine X_ld rfl rfl rfl rfl ?_
  refine X_vcall e_C_5 l_L_L_plan (v_plan hG d e_C_5) rfl rfl rfl rfl (Nat.le_of_ble_eq_true rfl) (Nat.le_of_ble_eq_true rfl) (by omega) (Nat.le_of_ble_eq_true rfl) (Nat.le_of_ble_eq_true rfl) ?_
  refine X_icmp_ne rfl (fun c => absurd rfl c) (fun _ => ?_)
  refine X_ld rfl rfl rfl rfl ?_
  refine X_push (v := .int 0) rfl (by decide +kernel) ?_
  refine X_ld rfl rfl rfl rfl ?_
  refine X_push (v := .int 0) rfl (by decide +kernel) ?_
  refine X_push (v := .int 0) rfl (by decide +kernel) ?_
  refine X_push (v := .int 0) rfl (by decide +kernel) ?_
  refine X_vcallX c_O l_L_X10_wouldUse (m_wouldUse hG hX hK d w hw hw10 h0 hst hwf hrel (x := 0) (v0 := nI vv) (v1 := 0) (v2 := 0) (v3 := 0) hbl hns (fun s gv hs => s_hov ht2 hi hs)) rfl rfl rfl rfl (Nat.le_of_ble_eq_true rfl) (Nat.le_of_ble_eq_true rfl) (by omega) (Nat.le_of_ble_eq_true rfl) (Nat.le_of_ble_eq_true rfl) rfl (fun N9 E9 h9 => (h9.2.elim (fun q => absurd hs q.1) (fun q => absurd hvg q.2.1))) (fun N9 r9 h9 => ?_)
  obtain ⟨-, rfl, rfl⟩ := h9
  refine X_stk (st' := [.int (e_used F (e_est F (nI vv) true l) (e_est F (nI vv) false l))]) (congrArg (fun z => [Value.int z]) (hm.used (gv := (s_gv (nI vv) 0 0 0)) hi ht2)) ?_
  exact rest _ _ (updN_ne (s_n10_ne hw10)) (updR_ne (s_n10_ne hw10))
