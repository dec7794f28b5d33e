/-! ===== the law's step (wip/p26/gen_g3.py) ===== -/
theorem e_shf_0 {A : Nat → Int32} {g : Nat} : e_shf A g g = A := by
  funext k
  unfold e_shf
  rw [if_neg (by omega)]
theorem e_shf_s {A : Nat → Int32} {g k : Nat} (h : g ≤ k) : upd (e_shf A g k) k (e_shf A g k (k + 1)) = e_shf A g (k + 1) := by
  funext j
  unfold upd e_shf
  rw [if_neg (show ¬ (g ≤ k + 1 ∧ k + 1 < k) by omega)]
  by_cases h1 : j = k
  · rw [if_pos h1, if_pos ⟨by omega, by omega⟩, h1]
  · rw [if_neg h1]
    by_cases h2 : g ≤ j ∧ j < k
    · rw [if_pos h2, if_pos ⟨h2.1, by omega⟩]
    · rw [if_neg h2, if_neg (by omega)]
theorem e_S.mono {B0 : XH} {l : Bool} {o t t' : Nat} {N : XH} (h : e_S B0 l o t N) (ht : t ≤ t') : e_S B0 l o t' N := by
  obtain ⟨F, A, C, J, bf, K, tk, ts, tl, tv, su, D, w, e, h1, h2, h3, h4, h5⟩ := h
  exact ⟨F, A, C, J, bf, K, tk, ts, tl, tv, su, D, w, e, h1, h2, h3, h4.mono (fun _ _ q => q) ht, h5⟩
theorem e_and7 (x : Int32) : ∃ j, j < 8 ∧ x &&& 7 = nI j := ⟨x.toBitVec.toNat % 2 ^ 3, Nat.mod_lt _ (by decide), pk_and x 3 (by decide)⟩
theorem v_step {G : XE} (hG : x_Kn G) (hX : x_KX G) (hK : x_KS G) {B0 : XH} (hB : e_B0 B0) {F A C J bf K tk ts : Nat → Int32} {tl : Int64} {tv : Nat → Int64} {su : Nat → Nat} {D : Nat → Nat → Int32} (d w : Nat) (hw : J 5 = nI w) (hw10 : w < 10) {e : Nat → Int32} {l : Bool} {oo t : Nat} (hm : md e F A C l oo) (hl : L_lv B0 t e (D w) (su w)) (hk : e_kp F) (ht : t ≤ 511) {c : Int32} : x_M G mL_step (d + 62) 130 800 [.ref 275, .ref 64, .int c, .int (b2 l), .int (nI oo)] (cset (e_B B0 F A C) J bf K tk ts tl tv su D) (e_Q B0 l oo (t + 1)) x_noX := by
  refine X_M hG okL_step rfl (L := [some (.ref 275), some (.ref 64), some (.int c), some (.int (b2 l)), some (.int (nI oo)), none, none, none, none]) rfl (Nat.le_of_ble_eq_true rfl) (fun ad0 nb0 => ?_)
  have hi := hl.1
  have hwf := hi.1
  have hrel := hl.2.1
  have hbl := hl.2.2.2
  have hst : ∀ {F9 A9 C9 : Nat → Int32}, st_at (e_B B0 F9 A9 C9) e (su w) := fun {F9 A9 C9} => y_le.st (e_B_le hB) hl.2.2.1
  have h0 : ∀ {F9 A9 C9 : Nat → Int32}, e_B B0 F9 A9 C9 0 = none := fun {F9 A9 C9} => (e_B_o (by decide)).trans hB.1.1
  obtain ⟨hm1, hm2, -⟩ := hm.lm
  obtain ⟨-, -, ⟨c3, -, c1⟩, -⟩ := hm.told hl
  have hD1 : D w 1 = F 2 := c1
  have hD3 : D w 3 = F 7 := c3
  have hw9 : upd (upd J 5 (nI (s_n10 w))) 6 (x_min (J 6 + 1) 8) 5 = nI (s_n10 w) := rfl
  obtain ⟨vv, hvv, evv⟩ := e_bnd_lt (c >>> ((3 : Int32) &&& 31)) (y := 14) (n := 14) rfl (by decide) (by decide)
  obtain ⟨uu, huu, euu⟩ := e_bnd_lt (c >>> ((8 : Int32) &&& 31)) (y := 4) (n := 4) rfl (by decide) (by decide)
  refine X_ld rfl rfl rfl rfl ?_
  refine X_push (v := .int 3) rfl (by decide +kernel) ?_
  refine X_bin rfl rfl ?_
  refine X_push (v := .int 14) rfl (by decide +kernel) ?_
  refine X_scall l_L_L_bound (v_bound hG d (y := 14) (by decide)) rfl rfl rfl (Nat.le_of_ble_eq_true rfl) (Nat.le_of_ble_eq_true rfl) (by omega) (Nat.le_of_ble_eq_true rfl) (Nat.le_of_ble_eq_true rfl) ?_
  refine X_stk (st' := [.int (nI vv)]) (congrArg (fun z => [Value.int z]) evv) ?_
  refine X_st rfl rfl rfl ?_
  refine X_ld rfl rfl rfl rfl ?_
  refine X_push (v := .int 8) rfl (by decide +kernel) ?_
  refine X_bin rfl rfl ?_
  refine X_push (v := .int 4) rfl (by decide +kernel) ?_
  refine X_scall l_L_L_bound (v_bound hG d (y := 4) (by decide)) rfl rfl rfl (Nat.le_of_ble_eq_true rfl) (Nat.le_of_ble_eq_true rfl) (by omega) (Nat.le_of_ble_eq_true rfl) (Nat.le_of_ble_eq_true rfl) ?_
  refine X_stk (st' := [.int (nI uu)]) (congrArg (fun z => [Value.int z]) euu) ?_
  refine X_st rfl rfl rfl ?_
  refine X_ld rfl rfl rfl rfl ?_
  refine X_push (v := .int 7) rfl (by decide +kernel) ?_
  refine X_bin rfl rfl ?_
  obtain ⟨j7, hj7, e7⟩ := e_and7 c
  refine X_stk (st' := [.int (nI j7)]) (congrArg (fun z => [Value.int z]) e7) ?_
  have c0 : x_W G mL_step (x_Z G (d + 62) 130 800 ad0 nb0 (e_Q B0 l oo (t + 1)) x_noX) (cset (e_B B0 F A C) J bf K tk ts tl tv su D) 0 0 52 [some (.ref 275), some (.ref 64), some (.int c), some (.int (b2 l)), some (.int (nI oo)), some (.int (nI vv)), some (.int (nI uu)), none, none] [] := by
    refine X_ld rfl rfl rfl rfl ?_
    refine X_get f_L_44 rfl e_C_5 rfl ?_
    refine X_push (v := .int 40) rfl (by decide +kernel) ?_
    refine X_icmp_ne rfl (fun c40 => ?_) (fun _ => ?_)
    · have hl40 : s_lm e < 40 := by
        rcases Nat.lt_or_ge (s_lm e) 40 with q | q
        · exact q
        · exact absurd (hm1.trans (congrArg nI (by omega : s_lm e = 40))) c40
      refine X_ld rfl rfl rfl rfl ?_
      refine X_get f_L_7 rfl e_C_5 rfl ?_
      refine X_ld rfl rfl rfl rfl ?_
      refine X_get f_L_44 rfl e_C_5 rfl ?_
      refine X_stk (st' := [.int (nI (s_lm e)), .ref 276]) (congrArg (fun z => [Value.int z, .ref 276]) hm1) ?_
      refine X_ld rfl rfl rfl rfl ?_
      refine X_iast rfl e_C_6 (vp_in_nI hl40 (by omega)) ?_
      rw [nI_clamp (by omega)]
      refine X_heap e_C_A ?_
      refine X_ld rfl rfl rfl rfl ?_
      refine X_get f_L_13 rfl e_C_5 rfl ?_
      refine X_ld rfl rfl rfl rfl ?_
      refine X_get f_L_44 rfl e_C_5 rfl ?_
      refine X_stk (st' := [.int (nI (s_lm e)), .ref 277]) (congrArg (fun z => [Value.int z, .ref 277]) hm1) ?_
      refine X_ld rfl rfl rfl rfl ?_
      refine X_iast rfl e_C_7 (vp_in_nI hl40 (by omega)) ?_
      rw [nI_clamp (by omega)]
      refine X_heap e_C_C ?_
      refine X_heap (e_N_self e_C_5) ?_
      refine X_ld rfl rfl rfl rfl ?_
      refine X_dup rfl rfl ?_
      refine X_eget (k := 0) f_L_44 rfl ?_
      refine X_push (v := .int 1) rfl (by decide +kernel) ?_
      refine X_bin rfl rfl ?_
      refine X_eput (k := 0) f_L_44 rfl ?_
      refine X_heap e_C_F ?_
      have hm9 : md (s_ins e (nI vv) (nI uu) 0 0 0) (upd F 2 (F 2 + 1)) (upd A (s_lm e) (nI vv)) (upd C (s_lm e) (nI uu)) l oo := hm.ins hl40
      have hiv := hm.ivr hvv (Nat.lt_trans huu (by decide))
      have hrm : ¬ e 0 = 0 ∧ D w 1 < 40 := ⟨by rw [hm.f0]; decide, by rw [hD1, hm1]; exact (nI_ltI (b := 40) (by omega) (by decide)).mpr hl40⟩
      refine X_ld rfl rfl rfl rfl ?_
      refine X_ld rfl rfl rfl rfl ?_
      refine X_ld rfl rfl rfl rfl ?_
      refine X_push (v := .int 0) rfl (by decide +kernel) ?_
      refine X_push (v := .int 0) rfl (by decide +kernel) ?_
      refine X_push (v := .int 0) rfl (by decide +kernel) ?_
      refine X_vcallX c_O l_L_X10_insert (m_insert hG hX d w hw hw10 h0 hst hwf hrel (v0 := nI vv) (v1 := nI uu) (v2 := 0) (v3 := 0) (v4 := 0) hbl) rfl rfl rfl rfl (Nat.le_of_ble_eq_true rfl) (Nat.le_of_ble_eq_true rfl) (by omega) (Nat.le_of_ble_eq_true rfl) (Nat.le_of_ble_eq_true rfl) rfl (fun N9 E9 h9 => (h9.2.elim (fun q => absurd hiv q.1) (fun q => absurd hrm q.2.1))) (fun N9 r9 h9 => ?_)
      obtain ⟨-, rfl, rfl⟩ := h9
      refine X_stk (st' := [.int (F 2 + 1)]) (congrArg (fun z => [Value.int z]) (show nI (s_lm e) + 1 = F 2 + 1 by rw [hm1])) ?_
      refine X_ld rfl rfl rfl rfl ?_
      refine X_get f_L_44 rfl e_C_5 rfl ?_
      refine X_icmp_ne rfl (fun c => absurd rfl c) (fun _ => ?_)
      refine X_ld rfl rfl rfl rfl ?_
      refine X_ld rfl rfl rfl rfl ?_
      have hl9 : L_lv B0 t (s_ins e (nI vv) (nI uu) 0 0 0) (updR D (s_n10 w) (s_insc (D w) (s_lm e) (nI vv) (nI uu) 0 0 0) (s_n10 w)) (updN su (s_n10 w) (su w) (s_n10 w)) := by
        rw [updR_eq, updN_eq]
        exact ga_ins hl ((g_room hi hrel).mp hrm).2 ((g_ivr hi).mp hiv)
      refine X_vcall e_C_5 l_L_L_isAlike (v_alike hG hX d (s_n10 w) hw9 s_n10_lt hm9 hl9 (e_B_le hB) e_B_5) rfl rfl rfl rfl (Nat.le_of_ble_eq_true rfl) (Nat.le_of_ble_eq_true rfl) (by omega) (Nat.le_of_ble_eq_true rfl) (Nat.le_of_ble_eq_true rfl) ?_
      refine X_if_eq rfl (fun c => absurd c (by decide)) (fun _ => ?_)
      refine X_push (v := .int 1) rfl (by decide +kernel) ?_
      refine X_goto rfl ?_
      exact X_zret rfl rfl rfl ⟨rfl, _, _, _, _, _, _, _, _, _, _, _, _, _, _, rfl, ⟨hw9, s_n10_lt⟩, hm9, (hl9).mono (fun _ _ q => q) (Nat.le_succ t), hk⟩ (Nat.le_of_ble_eq_true rfl) (Nat.le_of_ble_eq_true rfl)
    · refine X_push (v := .int 1) rfl (by decide +kernel) ?_
      exact X_zret rfl rfl rfl ⟨rfl, _, _, _, _, _, _, _, _, _, _, _, _, _, _, rfl, ⟨hw, hw10⟩, hm, hl.mono (fun _ _ q => q) (Nat.le_succ t), hk⟩ (Nat.le_of_ble_eq_true rfl) (Nat.le_of_ble_eq_true rfl)
  have c1 : x_W G mL_step (x_Z G (d + 62) 130 800 ad0 nb0 (e_Q B0 l oo (t + 1)) x_noX) (cset (e_B B0 F A C) J bf K tk ts tl tv su D) 0 0 127 [some (.ref 275), some (.ref 64), some (.int c), some (.int (b2 l)), some (.int (nI oo)), some (.int (nI vv)), some (.int (nI uu)), none, none] [] := by
    refine X_ld rfl rfl rfl rfl ?_
    refine X_get f_L_44 rfl e_C_5 rfl ?_
    refine X_if_ne rfl (fun cne => ?_) (fun _ => ?_)
    · have hm0 : 0 < s_lm e := by
        rcases Nat.eq_zero_or_pos (s_lm e) with q | q
        · exact absurd (hm1.trans (congrArg nI q)) cne
        · exact q
      obtain ⟨g, hg, eg⟩ := e_bnd_lt (c >>> ((3 : Int32) &&& 31)) (y := F 2) hm1 hm0 (by omega)
      refine X_ld rfl rfl rfl rfl ?_
      refine X_push (v := .int 3) rfl (by decide +kernel) ?_
      refine X_bin rfl rfl ?_
      refine X_ld rfl rfl rfl rfl ?_
      refine X_get f_L_44 rfl e_C_5 rfl ?_
      refine X_scall l_L_L_bound (v_bound hG d (y := F 2) cne) rfl rfl rfl (Nat.le_of_ble_eq_true rfl) (Nat.le_of_ble_eq_true rfl) (by omega) (Nat.le_of_ble_eq_true rfl) (Nat.le_of_ble_eq_true rfl) ?_
      refine X_stk (st' := [.int (nI g)]) (congrArg (fun z => [Value.int z]) eg) ?_
      refine X_st rfl rfl rfl ?_
      refine X_heap (e_N_self e_C_5) ?_
      refine X_ld rfl rfl rfl rfl ?_
      refine X_dup rfl rfl ?_
      refine X_eget (k := 0) f_L_44 rfl ?_
      refine X_push (v := .int 1) rfl (by decide +kernel) ?_
      refine X_bin rfl rfl ?_
      refine X_eput (k := 0) f_L_44 rfl ?_
      refine X_heap e_C_F ?_
      have hF2 : F (0 + 2) - 1 = nI (s_lm e - 1) := m_sub (b := 1) hm0 hm1 rfl
      refine X_heap (N' := (cset (e_B B0 (upd F 2 (nI (s_lm e - 1))) A C) J bf K tk ts tl tv su D)) (by rw [← hF2]) ?_
      refine X_ld rfl rfl rfl rfl ?_
      refine X_st rfl rfl rfl ?_
      refine X_heap (N' := (cset (e_B B0 (upd F 2 (nI (s_lm e - 1))) (e_shf A g g) (e_shf C g g)) J bf K tk ts tl tv su D)) (by rw [e_shf_0, e_shf_0]) ?_
      have after : x_W G mL_step (x_Z G (d + 62) 130 800 ad0 nb0 (e_Q B0 l oo (t + 1)) x_noX) (cset (e_B B0 (upd F 2 (nI (s_lm e - 1))) (e_shf A g (s_lm e - 1)) (e_shf C g (s_lm e - 1))) J bf K tk ts tl tv su D) 0 0 209 [some (.ref 275), some (.ref 64), some (.int c), some (.int (b2 l)), some (.int (nI oo)), some (.int (nI vv)), some (.int (nI uu)), some (.int (nI g)), some (.int (nI (s_lm e - 1)))] [] := by
        have hm9 : md (s_del e g) (upd F 2 (nI (s_lm e - 1))) (e_shf A g (s_lm e - 1)) (e_shf C g (s_lm e - 1)) l oo := hm.del hg
        have hrg : (0 : Int32) ≤ nI g ∧ nI g < D w 1 := by rw [hD1, hm1]; exact ⟨nI_ge0 (by omega), (nI_ltI (by omega) (by omega)).mpr hg⟩
        refine X_ld rfl rfl rfl rfl ?_
        refine X_ld rfl rfl rfl rfl ?_
        refine X_vcallX c_O l_L_X10_delete (m_delete hG hX d w hw hw10 hst hwf hrel (x := nI g) hbl) rfl rfl rfl rfl (Nat.le_of_ble_eq_true rfl) (Nat.le_of_ble_eq_true rfl) (by omega) (Nat.le_of_ble_eq_true rfl) (Nat.le_of_ble_eq_true rfl) rfl (fun N9 E9 h9 => (absurd hrg h9.1)) (fun N9 r9 h9 => ?_)
        obtain ⟨-, rfl, rfl⟩ := h9
        refine X_stk (st' := [.int (nI (s_lm e - 1))]) (congrArg (fun z => [Value.int z]) (show nI (s_lm e - 1) = nI (s_lm e - 1) from rfl)) ?_
        refine X_ld rfl rfl rfl rfl ?_
        refine X_get f_L_44 rfl e_C_5 rfl ?_
        refine X_icmp_ne rfl (fun c => absurd rfl c) (fun _ => ?_)
        refine X_ld rfl rfl rfl rfl ?_
        refine X_ld rfl rfl rfl rfl ?_
        have hl9 : L_lv B0 t (s_del e g) (updR D (s_n10 w) (upd (s_rmv (D w) (75 + 5 * n_ (nI g)) (5 * (s_lm e - 1 - n_ (nI g)))) 1 (nI (s_lm e - 1))) (s_n10 w)) (updN su (s_n10 w) (su w) (s_n10 w)) := by
          rw [updR_eq, updN_eq, n_nI (by omega)]
          exact ga_del hl hg
        refine X_vcall e_C_5 l_L_L_isAlike (v_alike hG hX d (s_n10 w) hw9 s_n10_lt hm9 hl9 (e_B_le hB) e_B_5) rfl rfl rfl rfl (Nat.le_of_ble_eq_true rfl) (Nat.le_of_ble_eq_true rfl) (by omega) (Nat.le_of_ble_eq_true rfl) (Nat.le_of_ble_eq_true rfl) ?_
        refine X_if_eq rfl (fun c => absurd c (by decide)) (fun _ => ?_)
        refine X_push (v := .int 1) rfl (by decide +kernel) ?_
        refine X_goto rfl ?_
        exact X_zret rfl rfl rfl ⟨rfl, _, _, _, _, _, _, _, _, _, _, _, _, _, _, rfl, ⟨hw9, s_n10_lt⟩, hm9, (hl9).mono (fun _ _ q => q) (Nat.le_succ t), hk⟩ (Nat.le_of_ble_eq_true rfl) (Nat.le_of_ble_eq_true rfl)
      have loop : ∀ f k, g ≤ k → k + f = s_lm e - 1 → x_W G mL_step (x_Z G (d + 62) 130 800 ad0 nb0 (e_Q B0 l oo (t + 1)) x_noX) (cset (e_B B0 (upd F 2 (nI (s_lm e - 1))) (e_shf A g k) (e_shf C g k)) J bf K tk ts tl tv su D) 0 0 162 [some (.ref 275), some (.ref 64), some (.int c), some (.int (b2 l)), some (.int (nI oo)), some (.int (nI vv)), some (.int (nI uu)), some (.int (nI g)), some (.int (nI k))] [] := fun f => by
        induction f with
        | zero =>
          intro k ek e0
          have e9 : k = s_lm e - 1 := by omega
          rw [e9]
          refine X_ld rfl rfl rfl rfl ?_
          refine X_ld rfl rfl rfl rfl ?_
          refine X_get f_L_44 rfl e_C_5 rfl ?_
          exact X_icmp_ge rfl (fun _ => after) (fun c => absurd (Int32.le_refl _) c)
        | succ f ih =>
          intro k ek e0
          refine X_ld rfl rfl rfl rfl ?_
          refine X_ld rfl rfl rfl rfl ?_
          refine X_get f_L_44 rfl e_C_5 rfl ?_
          refine X_icmp_ge rfl (fun c => absurd ((n_le (show (upd F 2 (nI (s_lm e - 1))) (0 + 2) = nI (s_lm e - 1) from rfl) rfl (by omega) (by omega)).mp c) (by omega)) (fun _ => ?_)
          refine X_ld rfl rfl rfl rfl ?_
          refine X_get f_L_7 rfl e_C_5 rfl ?_
          refine X_ld rfl rfl rfl rfl ?_
          refine X_ld rfl rfl rfl rfl ?_
          refine X_get f_L_7 rfl e_C_5 rfl ?_
          refine X_ld rfl rfl rfl rfl ?_
          refine X_push (v := .int 1) rfl (by decide +kernel) ?_
          refine X_bin rfl rfl ?_
          refine X_stk (st' := [.int (nI (k + 1)), .ref 276, .int (nI k), .ref 276]) (congrArg (fun z => [Value.int z, .ref 276, .int (nI k), .ref 276]) (nI_add k 1)) ?_
          refine X_iald rfl e_C_6 (vp_in_nI (n := k + 1) (by omega) (by omega)) (v := .int (e_shf A g k (k + 1))) (by rw [nI_clamp (by omega)]) ?_
          refine X_iast rfl e_C_6 (vp_in_nI (by omega) (by omega)) ?_
          rw [nI_clamp (by omega)]
          refine X_heap e_C_A ?_
          refine X_ld rfl rfl rfl rfl ?_
          refine X_get f_L_13 rfl e_C_5 rfl ?_
          refine X_ld rfl rfl rfl rfl ?_
          refine X_ld rfl rfl rfl rfl ?_
          refine X_get f_L_13 rfl e_C_5 rfl ?_
          refine X_ld rfl rfl rfl rfl ?_
          refine X_push (v := .int 1) rfl (by decide +kernel) ?_
          refine X_bin rfl rfl ?_
          refine X_stk (st' := [.int (nI (k + 1)), .ref 277, .int (nI k), .ref 277]) (congrArg (fun z => [Value.int z, .ref 277, .int (nI k), .ref 277]) (nI_add k 1)) ?_
          refine X_iald rfl e_C_7 (vp_in_nI (n := k + 1) (by omega) (by omega)) (v := .int (e_shf C g k (k + 1))) (by rw [nI_clamp (by omega)]) ?_
          refine X_iast rfl e_C_7 (vp_in_nI (by omega) (by omega)) ?_
          rw [nI_clamp (by omega)]
          refine X_heap e_C_C ?_
          refine X_heap (N' := (cset (e_B B0 (upd F 2 (nI (s_lm e - 1))) (e_shf A g (k + 1)) (e_shf C g (k + 1))) J bf K tk ts tl tv su D)) (by rw [e_shf_s ek, e_shf_s ek]) ?_
          refine X_iinc rfl rfl rfl ?_
          refine X_goto rfl ?_
          refine X_loc (L' := [some (.ref 275), some (.ref 64), some (.int c), some (.int (b2 l)), some (.int (nI oo)), some (.int (nI vv)), some (.int (nI uu)), some (.int (nI g)), some (.int (nI (k + 1)))]) ⟨rfl, rfl, rfl, rfl, rfl, rfl, rfl, rfl, congrArg Value.int (m_inc rfl).symm, trivial⟩ ?_
          exact ih (k + 1) (by omega) (by omega)
      refine X_loc (L' := [some (.ref 275), some (.ref 64), some (.int c), some (.int (b2 l)), some (.int (nI oo)), some (.int (nI vv)), some (.int (nI uu)), some (.int (nI g)), some (.int (nI g))]) ⟨rfl, rfl, rfl, rfl, rfl, rfl, rfl, rfl, rfl, trivial⟩ ?_
      exact loop (s_lm e - 1 - g) g (Nat.le_refl _) (by omega)
    · refine X_push (v := .int 1) rfl (by decide +kernel) ?_
      exact X_zret rfl rfl rfl ⟨rfl, _, _, _, _, _, _, _, _, _, _, _, _, _, _, rfl, ⟨hw, hw10⟩, hm, hl.mono (fun _ _ q => q) (Nat.le_succ t), hk⟩ (Nat.le_of_ble_eq_true rfl) (Nat.le_of_ble_eq_true rfl)
  have c2 : x_W G mL_step (x_Z G (d + 62) 130 800 ad0 nb0 (e_Q B0 l oo (t + 1)) x_noX) (cset (e_B B0 F A C) J bf K tk ts tl tv su D) 0 0 236 [some (.ref 275), some (.ref 64), some (.int c), some (.int (b2 l)), some (.int (nI oo)), some (.int (nI vv)), some (.int (nI uu)), none, none] [] := by
    refine X_ld rfl rfl rfl rfl ?_
    refine X_heap (e_N_self e_C_5) ?_
    refine X_vcallv x_set_eq l_L_L_analyze (v_ana hG d e_C_6 hm1 hm2) rfl rfl rfl rfl (Nat.le_of_ble_eq_true rfl) (Nat.le_of_ble_eq_true rfl) (by omega) (Nat.le_of_ble_eq_true rfl) (Nat.le_of_ble_eq_true rfl) ?_
    refine X_ld rfl rfl rfl rfl ?_
    refine X_dup rfl rfl ?_
    refine X_eget (k := 5) f_L_83 rfl ?_
    refine X_push (v := .int 1) rfl (by decide +kernel) ?_
    refine X_bin rfl rfl ?_
    refine X_eput (k := 5) f_L_83 rfl ?_
    refine X_heap e_C_F ?_
    refine X_heap (N' := (cset (e_B B0 (upd (e_ana F A (s_lm e)) 7 (F 7 + 1)) A C) J bf K tk ts tl tv su D)) (congrArg (fun z => cset (e_B B0 z A C) J bf K tk ts tl tv su D) rfl) ?_
    have hm9 : md (s_ana e) (upd (e_ana F A (s_lm e)) 7 (F 7 + 1)) A C l oo := hm.ana hi
    refine X_ld rfl rfl rfl rfl ?_
    refine X_vcall c_O l_L_X10_analyze (m_analyze hG hX d w hw hw10 hst hwf hrel hbl) rfl rfl rfl rfl (Nat.le_of_ble_eq_true rfl) (Nat.le_of_ble_eq_true rfl) (by omega) (Nat.le_of_ble_eq_true rfl) (Nat.le_of_ble_eq_true rfl) ?_
    refine X_stk (st' := [.int (F 7 + 1)]) (congrArg (fun z => [Value.int z]) (congrArg (fun z : Int32 => z + 1) hD3)) ?_
    refine X_ld rfl rfl rfl rfl ?_
    refine X_get f_L_83 rfl e_C_5 rfl ?_
    refine X_icmp_ne rfl (fun c => absurd rfl c) (fun _ => ?_)
    refine X_ld rfl rfl rfl rfl ?_
    refine X_ld rfl rfl rfl rfl ?_
    have hl9 : L_lv B0 t (s_ana e) (updR D (s_n10 w) (upd (s_look (D w) (s_lm e) (s_cm e)) 3 (D w 3 + 1)) (s_n10 w)) (updN su (s_n10 w) (su w) (s_n10 w)) := by
      rw [updR_eq, updN_eq]
      exact ga_ana hl
    refine X_vcall e_C_5 l_L_L_isAlike (v_alike hG hX d (s_n10 w) hw9 s_n10_lt hm9 hl9 (e_B_le hB) e_B_5) rfl rfl rfl rfl (Nat.le_of_ble_eq_true rfl) (Nat.le_of_ble_eq_true rfl) (by omega) (Nat.le_of_ble_eq_true rfl) (Nat.le_of_ble_eq_true rfl) ?_
    refine X_if_eq rfl (fun c => absurd c (by decide)) (fun _ => ?_)
    refine X_push (v := .int 1) rfl (by decide +kernel) ?_
    refine X_goto rfl ?_
    exact X_zret rfl rfl rfl ⟨rfl, _, _, _, _, _, _, _, _, _, _, _, _, _, _, rfl, ⟨hw9, s_n10_lt⟩, hm9, (hl9).mono (fun _ _ q => q) (Nat.le_succ t), hk⟩ (Nat.le_of_ble_eq_true rfl) (Nat.le_of_ble_eq_true rfl)
  have c9 : x_W G mL_step (x_Z G (d + 62) 130 800 ad0 nb0 (e_Q B0 l oo (t + 1)) x_noX) (cset (e_B B0 F A C) J bf K tk ts tl tv su D) 0 0 275 [some (.ref 275), some (.ref 64), some (.int c), some (.int (b2 l)), some (.int (nI oo)), some (.int (nI vv)), some (.int (nI uu)), none, none] [] := by
    refine X_ld rfl rfl rfl rfl ?_
    refine X_ld rfl rfl rfl rfl ?_
    refine X_ld rfl rfl rfl rfl ?_
    refine X_ld rfl rfl rfl rfl ?_
    refine X_ld rfl rfl rfl rfl ?_
    refine X_vcallX e_C_5 l_L_L_isRun (v_isRun hG hX hK hB d w hw hw10 hm hl hk ht hvv) rfl rfl rfl rfl (Nat.le_of_ble_eq_true rfl) (Nat.le_of_ble_eq_true rfl) (by omega) (Nat.le_of_ble_eq_true rfl) (Nat.le_of_ble_eq_true rfl) rfl (fun N9 E9 h9 => h9.elim) (fun N9 r9 h9 => ?_)
    obtain ⟨rfl, h9⟩ := h9
    exact X_zret rfl rfl rfl ⟨rfl, h9⟩ (Nat.le_of_ble_eq_true rfl) (Nat.le_of_ble_eq_true rfl)
  have e8 : (nI j7).toInt = (j7 : Int) := nI_toInt (by omega)
  rcases (show j7 = 0 ∨ j7 = 1 ∨ j7 = 2 ∨ 3 ≤ j7 by omega) with q | q | q | q
  · subst q
    exact X_tabIn 52 rfl (by decide) (by decide) rfl rfl c0
  · subst q
    exact X_tabIn 127 rfl (by decide) (by decide) rfl rfl c1
  · subst q
    exact X_tabIn 236 rfl (by decide) (by decide) rfl rfl c2
  · exact X_tabOut 275 rfl (Or.inr (by rw [e8]; omega)) rfl c9
