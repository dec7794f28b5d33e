/-! ===== the class: special, specialCost, rows, wouldUse, run ===== -/
section XCHKS2
variable {G : XE} {M Mc : XMI} {d mc ms nb0 : Nat} {ad0 : Nat → Nat} {Qn : XH → Option Value → Prop} {Qx : XH → String → Prop} {N N1 N2 : XH} {cells slots pc pc' t : Nat} {L : List (Option Value)}
theorem X_vchkS {idx n d' mc' ms' o ci nf : Nat} {T : u_T} {V : Nat → Value} {st As rest : List Value} {P : Prop} {C : String} (hN : N o = some (.inl (ci, V))) (hk : x_LV (x_own M) idx n Mc) (hM : x_M G Mc d' mc' ms' (.ref o :: As) N (x_QnP P N1) (x_QxP P N1 C))
    (hd : x_at (x_k M) pc = some (.invokevirtual idx, pc', t)) (hst : st = As.reverse ++ .ref o :: rest) (hci : vwCl[ci]? = some ((x_y Mc).cls, T, nf)) (hn : As.length = n) (hrest : (rest.map fun v => v.category).sum ≤ 8) (hL : x_nL Mc ≤ 81) (hdd : d' + 1 ≤ d) (h1 : cells + mc' ≤ mc) (h2 : slots + ms' ≤ ms) (hhh : x_hh M = []) (hs : ∀ k c, N2 k = some c → N1 k = some c) (kx : ¬ P → Qx N2 C)
    (kk : P → x_W G M (x_Z G d mc ms ad0 nb0 Qn Qx) N1 (cells + mc') (slots + ms') pc' L rest) : x_W G M (x_Z G d mc ms ad0 nb0 Qn Qx) N cells slots pc L st :=
  X_callV (T := T) (nf := nf) hk hM hd hst hN hci hn hrest (x_fit_of hL hdd h1 h2) (fun N' E h => by obtain ⟨hp, rfl, rfl⟩ := h; exact X_outS hhh h1 h2 hs (kx hp)) (fun N' r h => by obtain ⟨hp, rfl, rfl⟩ := h; exact kk hp)
end XCHKS2
theorem s_px_g {e g gv : Nat → Int32} {l f n : Nat} {P : Nat → Bool} (hg : g_ok true g gv) (hc : ∀ k, k < n → s_cod e (f + k) 0 = 0 → s_cmpok e (f + k)) : ∀ k, k ≤ n → s_px e g l f P k = s_px e gv l f P k
  | 0, _ => rfl
  | k + 1, hk => by
    show s_px1 _ _ _ (s_px e g l f P k) = s_px1 _ _ _ (s_px e gv l f P k)
    rw [s_px_g hg hc k (by omega)]
    by_cases h0 : s_cod e (f + k) 0 = 0
    · rw [s_tru_g (hc k (by omega) h0) hg]
    · unfold s_px1
      rw [if_neg h0, if_neg h0]
theorem s_find_g {e g gv : Nat → Int32} {s l : Nat} (hwf : s_wf e) (hs : s < s_sm e) (hg : g_ok true g gv) : s_find e g s l = s_find e gv s l := by
  refine congrFun (s_px_g hg (fun k hk h0 => (hwf.st s hs).2.2 _ (by omega) (by omega) h0) _ (Nat.le_refl _)) 0
theorem s_rws_g {e g gv : Nat → Int32} {s n : Nat} (hwf : s_wf e) (hs : s < s_sm e) (hg : g_ok true g gv) : s_rws e g s n = s_rws e gv s n := by
  rw [s_rws_me, s_rws_me]
  exact s_me_cong n fun l _ => s_find_g hwf hs hg
theorem s_cnt_g {e g gv : Nat → Int32} {s : Nat} (hwf : s_wf e) (hs : s < s_sm e) (hg : g_ok true g gv) : ∀ n, s_cnt e g s n = s_cnt e gv s n
  | 0 => rfl
  | n + 1 => by
    show s_cnt e g s n + (bif s_find e g s n then 1 else 0) = s_cnt e gv s n + (bif s_find e gv s n then 1 else 0)
    rw [s_cnt_g hwf hs hg n, s_find_g hwf hs hg]
theorem m_special {G : XE} (hG : x_Kn G) (hX : x_KX G) {B : XH} {J bf K tk ts : Nat → Int32} {tl : Int64} {tv : Nat → Int64} {su : Nat → Nat} {D : Nat → Nat → Int32} (d : Nat) (w : Nat) (hw : J 5 = nI w) (hw10 : w < 10) (h0 : B 0 = none) {e : Nat → Int32} (hst : st_at B e (su w)) (hwf : s_wf e) (hrel : s_rel e (D w)) {x v0 v1 v2 v3 : Int32} : x_M G mX10_special (d + 8) 6 34 [.ref 64, .int x, .int v0, .int v1, .int v2, .int v3] (cset B J bf K tk ts tl tv su D) (x_QnV ((0 ≤ x ∧ x < nI (s_sm e)) ∧ (s_vgr e (n_ x) v0 v1 v2 v3)) (cset B J bf K tk ts tl tv su D) (.int (s_best e (s_gv v0 v1 v2 v3) (n_ x) (s_cm e) true))) (x_Qx2 (0 ≤ x ∧ x < nI (s_sm e)) (s_vgr e (n_ x) v0 v1 v2 v3) (cset B J bf K tk ts tl tv su D) "java/lang/IndexOutOfBoundsException" "java/lang/IllegalArgumentException") := by
  refine X_M hG okX10_special rfl (L := [some (.ref 64), some (.int x), some (.int v0), some (.int v1), some (.int v2), some (.int v3), none]) rfl (Nat.le_of_ble_eq_true rfl) (fun ad0 nb0 => ?_)
  have hsm6 := hwf.smE.2
  have hcm5 := hwf.cmE.2
  have hlm40 := hwf.lmE.2
  refine X_ld rfl rfl rfl rfl ?_
  refine X_ld rfl rfl rfl rfl ?_
  refine X_ld rfl rfl rfl rfl ?_
  refine X_ld rfl rfl rfl rfl ?_
  refine X_ld rfl rfl rfl rfl ?_
  refine X_ld rfl rfl rfl rfl ?_
  refine X_vcallX c_O l_X10_X10_checkedValues (m_checkedValues hG hX d w hw hw10 h0 hst hwf) rfl rfl rfl rfl (Nat.le_of_ble_eq_true rfl) (Nat.le_of_ble_eq_true rfl) (by omega) (Nat.le_of_ble_eq_true rfl) (Nat.le_of_ble_eq_true rfl) rfl (fun _ _ h => h) (fun N1 r1 h1 => ?_)
  obtain ⟨⟨hp1, hp2⟩, q, h64, hqo, hqB, rfl, rfl⟩ := h1
  refine X_stk (st' := [.ref q]) rfl ?_
  have hst2 := (y_le_set (c := s_g4c v0 v1 v2 v3) hqB).st hst
  have hvv : v_at (x_set B q (s_g4c v0 v1 v2 v3)) (s_g4 v0 v1 v2 v3) q := ⟨hqo, true, x_set_eq⟩
  have hg4 := s_g4_ok hp2
  obtain ⟨a, ha, hxa⟩ := m_rngl rfl (by omega) hp1
  have ex : n_ x = a := by unfold n_; rw [hxa]; exact nI_clamp (by omega)
  rw [ex] at hp2
  refine X_heap (N' := cset (x_set B q (s_g4c v0 v1 v2 v3)) J bf K tk ts tl tv su D) rfl ?_
  refine X_st rfl rfl rfl ?_
  refine X_ld rfl rfl rfl rfl ?_
  refine X_vcall c_O l_X10_X10_current (m_current hG (d + 7) w hw hw10) rfl rfl rfl rfl (Nat.le_of_ble_eq_true rfl) (Nat.le_of_ble_eq_true rfl) (by omega) (Nat.le_of_ble_eq_true rfl) (Nat.le_of_ble_eq_true rfl) ?_
  refine X_ld rfl rfl rfl rfl ?_
  refine X_ld rfl rfl rfl rfl ?_
  refine X_heap (congrArg (fun D => cset (x_set B q (s_g4c v0 v1 v2 v3)) J bf K tk ts tl tv su D) (updR_self (w := w))) ?_
  refine X_vcall (r_D hw10 updR_eq) l_X10_X3_bestPlan (d_bestPlan hG (d + 1) w hw10 (z := true) (gv := s_gv v0 v1 v2 v3) hwf hst2 hrel hvv hg4 a ha hxa) rfl rfl rfl rfl (Nat.le_of_ble_eq_true rfl) (Nat.le_of_ble_eq_true rfl) (by omega) (Nat.le_of_ble_eq_true rfl) (Nat.le_of_ble_eq_true rfl) ?_
  refine X_heap (congrArg (fun D => cset (x_set B q (s_g4c v0 v1 v2 v3)) J bf K tk ts tl tv su D) (updR_self (w := w)).symm) ?_
  refine X_cells (N' := cset B J bf K tk ts tl tv su D) (y_le.c (y_le_set hqB)) ?_
  exact X_iret rfl rfl ⟨⟨hp1, by rw [ex]; exact hp2⟩, rfl, by rw [ex]⟩ (Nat.le_of_ble_eq_true rfl) (Nat.le_of_ble_eq_true rfl)
theorem m_specialCost {G : XE} (hG : x_Kn G) (hX : x_KX G) {B : XH} {J bf K tk ts : Nat → Int32} {tl : Int64} {tv : Nat → Int64} {su : Nat → Nat} {D : Nat → Nat → Int32} (d : Nat) (w : Nat) (hw : J 5 = nI w) (hw10 : w < 10) (h0 : B 0 = none) {e : Nat → Int32} (hst : st_at B e (su w)) (hwf : s_wf e) (hrel : s_rel e (D w)) {x y v0 v1 v2 v3 : Int32} : x_M G mX10_specialCost (d + 8) 7 40 [.ref 64, .int x, .int y, .int v0, .int v1, .int v2, .int v3] (cset B J bf K tk ts tl tv su D) (x_QnV ((0 ≤ x ∧ x < nI (s_sm e)) ∧ (s_vgr e (n_ x) v0 v1 v2 v3) ∧ (-1 ≤ y ∧ y < e 0)) (cset B J bf K tk ts tl tv su D) (.int (s_cost e (s_gv v0 v1 v2 v3) (n_ x) y true))) (x_Qx2 (0 ≤ x ∧ x < nI (s_sm e)) ((s_vgr e (n_ x) v0 v1 v2 v3) ∧ (-1 ≤ y ∧ y < e 0)) (cset B J bf K tk ts tl tv su D) "java/lang/IndexOutOfBoundsException" "java/lang/IllegalArgumentException") := by
  refine X_M hG okX10_specialCost rfl (L := [some (.ref 64), some (.int x), some (.int y), some (.int v0), some (.int v1), some (.int v2), some (.int v3), none]) rfl (Nat.le_of_ble_eq_true rfl) (fun ad0 nb0 => ?_)
  have hsm6 := hwf.smE.2
  have hcm5 := hwf.cmE.2
  have hlm40 := hwf.lmE.2
  refine X_ld rfl rfl rfl rfl ?_
  refine X_ld rfl rfl rfl rfl ?_
  refine X_ld rfl rfl rfl rfl ?_
  refine X_ld rfl rfl rfl rfl ?_
  refine X_ld rfl rfl rfl rfl ?_
  refine X_ld rfl rfl rfl rfl ?_
  refine X_vcallX c_O l_X10_X10_checkedValues (m_checkedValues hG hX d w hw hw10 h0 hst hwf) rfl rfl rfl rfl (Nat.le_of_ble_eq_true rfl) (Nat.le_of_ble_eq_true rfl) (by omega) (Nat.le_of_ble_eq_true rfl) (Nat.le_of_ble_eq_true rfl) rfl (fun _ _ h => ⟨h.1, h.2.imp id (fun z => ⟨z.1, fun u => z.2.1 u.1, z.2.2⟩)⟩) (fun N1 r1 h1 => ?_)
  obtain ⟨⟨hp1, hp2⟩, q, h64, hqo, hqB, rfl, rfl⟩ := h1
  refine X_stk (st' := [.ref q]) rfl ?_
  have hst2 := (y_le_set (c := s_g4c v0 v1 v2 v3) hqB).st hst
  have hvv : v_at (x_set B q (s_g4c v0 v1 v2 v3)) (s_g4 v0 v1 v2 v3) q := ⟨hqo, true, x_set_eq⟩
  have hg4 := s_g4_ok hp2
  obtain ⟨a, ha, hxa⟩ := m_rngl rfl (by omega) hp1
  have ex : n_ x = a := by unfold n_; rw [hxa]; exact nI_clamp (by omega)
  rw [ex] at hp2
  refine X_heap (N' := cset (x_set B q (s_g4c v0 v1 v2 v3)) J bf K tk ts tl tv su D) rfl ?_
  refine X_st rfl rfl rfl ?_
  refine X_ld rfl rfl rfl rfl ?_
  refine X_ld rfl rfl rfl rfl ?_
  refine X_vchkS (N2 := cset B J bf K tk ts tl tv su D) c_O l_X10_X10_checkPlan (m_checkPlan hG hX (d + 1) w hw hw10 hst2) rfl rfl rfl rfl (Nat.le_of_ble_eq_true rfl) (Nat.le_of_ble_eq_true rfl) (by omega) (Nat.le_of_ble_eq_true rfl) (Nat.le_of_ble_eq_true rfl) rfl (y_le.c (y_le_set hqB)) (fun z => ⟨rfl, Or.inr ⟨hp1, fun u => z u.2, rfl⟩⟩) (fun hp3 => ?_)
  refine X_ld rfl rfl rfl rfl ?_
  refine X_vcall c_O l_X10_X10_current (m_current hG (d + 7) w hw hw10) rfl rfl rfl rfl (Nat.le_of_ble_eq_true rfl) (Nat.le_of_ble_eq_true rfl) (by omega) (Nat.le_of_ble_eq_true rfl) (Nat.le_of_ble_eq_true rfl) ?_
  refine X_ld rfl rfl rfl rfl ?_
  refine X_ld rfl rfl rfl rfl ?_
  refine X_ld rfl rfl rfl rfl ?_
  refine X_heap (congrArg (fun D => cset (x_set B q (s_g4c v0 v1 v2 v3)) J bf K tk ts tl tv su D) (updR_self (w := w))) ?_
  refine X_vcall (r_D hw10 updR_eq) l_X10_X3_costOf (d_costOf hG (d + 2) w hw10 (z := true) (gv := s_gv v0 v1 v2 v3) hwf hst2 hrel hvv hg4 a ha hxa (s_plan_of hwf.cmE.1 hcm5 hp3)) rfl rfl rfl rfl (Nat.le_of_ble_eq_true rfl) (Nat.le_of_ble_eq_true rfl) (by omega) (Nat.le_of_ble_eq_true rfl) (Nat.le_of_ble_eq_true rfl) ?_
  refine X_heap (congrArg (fun D => cset (x_set B q (s_g4c v0 v1 v2 v3)) J bf K tk ts tl tv su D) (updR_self (w := w)).symm) ?_
  refine X_cells (N' := cset B J bf K tk ts tl tv su D) (y_le.c (y_le_set hqB)) ?_
  exact X_iret rfl rfl ⟨⟨hp1, by rw [ex]; exact hp2, hp3⟩, rfl, by rw [ex]⟩ (Nat.le_of_ble_eq_true rfl) (Nat.le_of_ble_eq_true rfl)
theorem m_rows {G : XE} (hG : x_Kn G) (hX : x_KX G) {B : XH} {J bf K tk ts : Nat → Int32} {tl : Int64} {tv : Nat → Int64} {su : Nat → Nat} {D : Nat → Nat → Int32} (d : Nat) (w : Nat) (hw : J 5 = nI w) (hw10 : w < 10) (h0 : B 0 = none) {e : Nat → Int32} (hst : st_at B e (su w)) (hwf : s_wf e) (hrel : s_rel e (D w)) {x v0 v1 v2 v3 : Int32} : x_M G mX10_rows (d + 47) 6 34 [.ref 64, .int x, .int v0, .int v1, .int v2, .int v3] (cset B J bf K tk ts tl tv su D) (x_QnV ((0 ≤ x ∧ x < nI (s_sm e)) ∧ (s_vgr e (n_ x) v0 v1 v2 v3)) (cset B J bf K tk ts tl tv su D) (.long (s_rws e (s_gv v0 v1 v2 v3) (n_ x) (s_lm e)))) (x_Qx2 (0 ≤ x ∧ x < nI (s_sm e)) (s_vgr e (n_ x) v0 v1 v2 v3) (cset B J bf K tk ts tl tv su D) "java/lang/IndexOutOfBoundsException" "java/lang/IllegalArgumentException") := by
  refine X_M hG okX10_rows rfl (L := [some (.ref 64), some (.int x), some (.int v0), some (.int v1), some (.int v2), some (.int v3), none]) rfl (Nat.le_of_ble_eq_true rfl) (fun ad0 nb0 => ?_)
  have hsm6 := hwf.smE.2
  have hcm5 := hwf.cmE.2
  have hlm40 := hwf.lmE.2
  refine X_ld rfl rfl rfl rfl ?_
  refine X_ld rfl rfl rfl rfl ?_
  refine X_ld rfl rfl rfl rfl ?_
  refine X_ld rfl rfl rfl rfl ?_
  refine X_ld rfl rfl rfl rfl ?_
  refine X_ld rfl rfl rfl rfl ?_
  refine X_vcallX c_O l_X10_X10_checkedValues (m_checkedValues hG hX d w hw hw10 h0 hst hwf) rfl rfl rfl rfl (Nat.le_of_ble_eq_true rfl) (Nat.le_of_ble_eq_true rfl) (by omega) (Nat.le_of_ble_eq_true rfl) (Nat.le_of_ble_eq_true rfl) rfl (fun _ _ h => h) (fun N1 r1 h1 => ?_)
  obtain ⟨⟨hp1, hp2⟩, q, h64, hqo, hqB, rfl, rfl⟩ := h1
  refine X_stk (st' := [.ref q]) rfl ?_
  have hst2 := (y_le_set (c := s_g4c v0 v1 v2 v3) hqB).st hst
  have hvv : v_at (x_set B q (s_g4c v0 v1 v2 v3)) (s_g4 v0 v1 v2 v3) q := ⟨hqo, true, x_set_eq⟩
  have hg4 := s_g4_ok hp2
  obtain ⟨a, ha, hxa⟩ := m_rngl rfl (by omega) hp1
  have ex : n_ x = a := by unfold n_; rw [hxa]; exact nI_clamp (by omega)
  rw [ex] at hp2
  refine X_heap (N' := cset (x_set B q (s_g4c v0 v1 v2 v3)) J bf K tk ts tl tv su D) rfl ?_
  refine X_st rfl rfl rfl ?_
  refine X_ld rfl rfl rfl rfl ?_
  refine X_vcall c_O l_X10_X10_current (m_current hG (d + 46) w hw hw10) rfl rfl rfl rfl (Nat.le_of_ble_eq_true rfl) (Nat.le_of_ble_eq_true rfl) (by omega) (Nat.le_of_ble_eq_true rfl) (Nat.le_of_ble_eq_true rfl) ?_
  refine X_ld rfl rfl rfl rfl ?_
  refine X_ld rfl rfl rfl rfl ?_
  refine X_heap (congrArg (fun D => cset (x_set B q (s_g4c v0 v1 v2 v3)) J bf K tk ts tl tv su D) (updR_self (w := w))) ?_
  refine X_vcall (r_D hw10 updR_eq) l_X10_X3_findRows (d_findRows hG (d + 1) w hw10 hwf hst2 hrel hvv a ha (s_lm e) (hrel.1.1.symm.trans hwf.lmE.1) (by omega) hxa) rfl rfl rfl rfl (Nat.le_of_ble_eq_true rfl) (Nat.le_of_ble_eq_true rfl) (by omega) (Nat.le_of_ble_eq_true rfl) (Nat.le_of_ble_eq_true rfl) ?_
  refine X_heap (congrArg (fun D => cset (x_set B q (s_g4c v0 v1 v2 v3)) J bf K tk ts tl tv su D) (updR_self (w := w)).symm) ?_
  refine X_cells (N' := cset B J bf K tk ts tl tv su D) (y_le.c (y_le_set hqB)) ?_
  exact X_lret rfl rfl ⟨⟨hp1, by rw [ex]; exact hp2⟩, rfl, by rw [ex, s_rws_g hwf ha hg4]⟩ (Nat.le_of_ble_eq_true rfl) (Nat.le_of_ble_eq_true rfl)
theorem m_wouldUse {G : XE} (hG : x_Kn G) (hX : x_KX G) (hK : x_KS G) {B : XH} {J bf K tk ts : Nat → Int32} {tl : Int64} {tv : Nat → Int64} {su : Nat → Nat} {D : Nat → Nat → Int32} (d : Nat) (w : Nat) (hw : J 5 = nI w) (hw10 : w < 10) (h0 : B 0 = none) {e : Nat → Int32} (hst : st_at B e (su w)) (hwf : s_wf e) (hrel : s_rel e (D w)) {x v0 v1 v2 v3 : Int32} (hbl : ∀ q, q < 5 → D w (10 + 13 * q + 9) = 0 ∨ D w (10 + 13 * q + 9) = 1) (hns : v_at B (fun _ => -1) 1) (hov : ∀ (s : Nat) (gv : Nat → Int32), s < s_sm e → (s_gen (s_mkg e gv s) s (s_st (s_mkg e gv s) s 15) ↔ s_st (s_mkg e gv s) s 15 * s_st (s_mkg e gv s) s 9 ≤ s_st (s_mkg e gv s) s 10)) : x_M G mX10_wouldUse (d + 9) 6 34 [.ref 64, .int x, .int v0, .int v1, .int v2, .int v3] (cset B J bf K tk ts tl tv su D) (x_QnV ((0 ≤ x ∧ x < nI (s_sm e)) ∧ (s_vgr e (n_ x) v0 v1 v2 v3)) (cset B J bf K tk ts tl tv (updN su (s_n10 w) (su w)) (updR D (s_n10 w) (s_ckr e (D w) (s_gv v0 v1 v2 v3) (n_ x)))) (.int (s_ckv e (s_gv v0 v1 v2 v3) (n_ x)))) (x_Qx2 (0 ≤ x ∧ x < nI (s_sm e)) (s_vgr e (n_ x) v0 v1 v2 v3) (cset B J bf K tk ts tl tv su D) "java/lang/IndexOutOfBoundsException" "java/lang/IllegalArgumentException") := by
  refine X_M hG okX10_wouldUse rfl (L := [some (.ref 64), some (.int x), some (.int v0), some (.int v1), some (.int v2), some (.int v3), none]) rfl (Nat.le_of_ble_eq_true rfl) (fun ad0 nb0 => ?_)
  have hsm6 := hwf.smE.2
  have hcm5 := hwf.cmE.2
  have hlm40 := hwf.lmE.2
  have h10 : s_n10 w < 10 := s_n10_lt
  refine X_ld rfl rfl rfl rfl ?_
  refine X_ld rfl rfl rfl rfl ?_
  refine X_ld rfl rfl rfl rfl ?_
  refine X_ld rfl rfl rfl rfl ?_
  refine X_ld rfl rfl rfl rfl ?_
  refine X_ld rfl rfl rfl rfl ?_
  refine X_vcallX c_O l_X10_X10_checkedValues (m_checkedValues hG hX d w hw hw10 h0 hst hwf) rfl rfl rfl rfl (Nat.le_of_ble_eq_true rfl) (Nat.le_of_ble_eq_true rfl) (by omega) (Nat.le_of_ble_eq_true rfl) (Nat.le_of_ble_eq_true rfl) rfl (fun _ _ h => h) (fun N1 r1 h1 => ?_)
  obtain ⟨⟨hp1, hp2⟩, q, h64, hqo, hqB, rfl, rfl⟩ := h1
  refine X_stk (st' := [.ref q]) rfl ?_
  have hst2 := (y_le_set (c := s_g4c v0 v1 v2 v3) hqB).st hst
  have hvv : v_at (x_set B q (s_g4c v0 v1 v2 v3)) (s_g4 v0 v1 v2 v3) q := ⟨hqo, true, x_set_eq⟩
  have hg4 := s_g4_ok hp2
  obtain ⟨a, ha, hxa⟩ := m_rngl rfl (by omega) hp1
  have ex : n_ x = a := by unfold n_; rw [hxa]; exact nI_clamp (by omega)
  rw [ex] at hp2
  refine X_heap (N' := cset (x_set B q (s_g4c v0 v1 v2 v3)) J bf K tk ts tl tv su D) rfl ?_
  refine X_st rfl rfl rfl ?_
  refine X_ld rfl rfl rfl rfl ?_
  refine X_vcall c_O l_X10_X10_spareCopy (m_spareCopy hG (d + 5) w hw hw10 hbl) rfl rfl rfl rfl (Nat.le_of_ble_eq_true rfl) (Nat.le_of_ble_eq_true rfl) (by omega) (Nat.le_of_ble_eq_true rfl) (Nat.le_of_ble_eq_true rfl) ?_
  refine X_ld rfl rfl rfl rfl ?_
  refine X_ld rfl rfl rfl rfl ?_
  refine X_vcall (r_D h10 updR_eq) l_X10_X3_choosePlan (d_choosePlan hG hK (d + 1) (s_n10 w) h10 (gv := s_gv v0 v1 v2 v3) hwf (by rw [updN_eq]; exact hst2) hrel hvv hg4 a ha ((y_le_set (c := s_g4c v0 v1 v2 v3) hqB).v hns) (hov a (s_gv v0 v1 v2 v3) ha) hxa) rfl rfl rfl rfl (Nat.le_of_ble_eq_true rfl) (Nat.le_of_ble_eq_true rfl) (by omega) (Nat.le_of_ble_eq_true rfl) (Nat.le_of_ble_eq_true rfl) ?_
  refine X_cells (N' := cset B J bf K tk ts tl tv (updN su (s_n10 w) (su w)) (updR D (s_n10 w) (s_ckr e (D w) (s_gv v0 v1 v2 v3) a))) (y_le.c (y_le_set hqB)) ?_
  exact X_iret rfl rfl ⟨⟨hp1, by rw [ex]; exact hp2⟩, by rw [ex], by rw [ex]⟩ (Nat.le_of_ble_eq_true rfl) (Nat.le_of_ble_eq_true rfl)
theorem m_run {G : XE} (hG : x_Kn G) (hX : x_KX G) (hK : x_KS G) {B : XH} {J bf K tk ts : Nat → Int32} {tl : Int64} {tv : Nat → Int64} {su : Nat → Nat} {D : Nat → Nat → Int32} (d : Nat) (w : Nat) (hw : J 5 = nI w) (hw10 : w < 10) (h0 : B 0 = none) {e : Nat → Int32} (hst : st_at B e (su w)) (hwf : s_wf e) (hrel : s_rel e (D w)) {x v0 v1 v2 v3 : Int32} (hbl : ∀ q, q < 5 → D w (10 + 13 * q + 9) = 0 ∨ D w (10 + 13 * q + 9) = 1) (hns : v_at B (fun _ => -1) 1) (hov : ∀ (s : Nat) (gv : Nat → Int32), s < s_sm e → (s_gen (s_mkg e gv s) s (s_st (s_mkg e gv s) s 15) ↔ s_st (s_mkg e gv s) s 15 * s_st (s_mkg e gv s) s 9 ≤ s_st (s_mkg e gv s) s 10)) : x_M G mX10_run (d + 47) 6 34 [.ref 64, .int x, .int v0, .int v1, .int v2, .int v3] (cset B J bf K tk ts tl tv su D) (x_QnV ((0 ≤ x ∧ x < nI (s_sm e)) ∧ (s_vgr e (n_ x) v0 v1 v2 v3)) (cset B (upd (upd J 5 (nI (s_n10 w))) 6 (x_min (J 6 + 1) 8)) bf K tk ts tl tv (updN su (s_n10 w) (su w)) (updR D (s_n10 w) (s_exc e (D w) (s_gv v0 v1 v2 v3) (n_ x)))) (.int (s_cnt e (s_gv v0 v1 v2 v3) (n_ x) (s_lm e)))) (x_Qx2 (0 ≤ x ∧ x < nI (s_sm e)) (s_vgr e (n_ x) v0 v1 v2 v3) (cset B J bf K tk ts tl tv su D) "java/lang/IndexOutOfBoundsException" "java/lang/IllegalArgumentException") := by
  refine X_M hG okX10_run rfl (L := [some (.ref 64), some (.int x), some (.int v0), some (.int v1), some (.int v2), some (.int v3), none]) rfl (Nat.le_of_ble_eq_true rfl) (fun ad0 nb0 => ?_)
  have hsm6 := hwf.smE.2
  have hcm5 := hwf.cmE.2
  have hlm40 := hwf.lmE.2
  have h10 : s_n10 w < 10 := s_n10_lt
  refine X_ld rfl rfl rfl rfl ?_
  refine X_ld rfl rfl rfl rfl ?_
  refine X_ld rfl rfl rfl rfl ?_
  refine X_ld rfl rfl rfl rfl ?_
  refine X_ld rfl rfl rfl rfl ?_
  refine X_ld rfl rfl rfl rfl ?_
  refine X_vcallX c_O l_X10_X10_checkedValues (m_checkedValues hG hX d w hw hw10 h0 hst hwf) rfl rfl rfl rfl (Nat.le_of_ble_eq_true rfl) (Nat.le_of_ble_eq_true rfl) (by omega) (Nat.le_of_ble_eq_true rfl) (Nat.le_of_ble_eq_true rfl) rfl (fun _ _ h => h) (fun N1 r1 h1 => ?_)
  obtain ⟨⟨hp1, hp2⟩, q, h64, hqo, hqB, rfl, rfl⟩ := h1
  refine X_stk (st' := [.ref q]) rfl ?_
  have hst2 := (y_le_set (c := s_g4c v0 v1 v2 v3) hqB).st hst
  have hvv : v_at (x_set B q (s_g4c v0 v1 v2 v3)) (s_g4 v0 v1 v2 v3) q := ⟨hqo, true, x_set_eq⟩
  have hg4 := s_g4_ok hp2
  obtain ⟨a, ha, hxa⟩ := m_rngl rfl (by omega) hp1
  have ex : n_ x = a := by unfold n_; rw [hxa]; exact nI_clamp (by omega)
  rw [ex] at hp2
  refine X_heap (N' := cset (x_set B q (s_g4c v0 v1 v2 v3)) J bf K tk ts tl tv su D) rfl ?_
  refine X_st rfl rfl rfl ?_
  refine X_ld rfl rfl rfl rfl ?_
  refine X_vcall c_O l_X10_X10_spareCopy (m_spareCopy hG (d + 43) w hw hw10 hbl) rfl rfl rfl rfl (Nat.le_of_ble_eq_true rfl) (Nat.le_of_ble_eq_true rfl) (by omega) (Nat.le_of_ble_eq_true rfl) (Nat.le_of_ble_eq_true rfl) ?_
  refine X_ld rfl rfl rfl rfl ?_
  refine X_ld rfl rfl rfl rfl ?_
  refine X_vcallv (r_D h10 updR_eq) l_X10_X3_execute (d_execute hG hK (d + 38) (s_n10 w) h10 (gv := s_gv v0 v1 v2 v3) hwf (by rw [updN_eq]; exact hst2) hrel hvv hg4 a ha ((y_le_set (c := s_g4c v0 v1 v2 v3) hqB).v hns) (hov a (s_gv v0 v1 v2 v3) ha) hxa) rfl rfl rfl rfl (Nat.le_of_ble_eq_true rfl) (Nat.le_of_ble_eq_true rfl) (by omega) (Nat.le_of_ble_eq_true rfl) (Nat.le_of_ble_eq_true rfl) ?_
  refine X_ld rfl rfl rfl rfl ?_
  refine X_vcallv c_O l_X10_X10_takeSpare (m_takeSpare hG (d + 45) w hw hw10) rfl rfl rfl rfl (Nat.le_of_ble_eq_true rfl) (Nat.le_of_ble_eq_true rfl) (by omega) (Nat.le_of_ble_eq_true rfl) (Nat.le_of_ble_eq_true rfl) ?_
  refine X_ld rfl rfl rfl rfl ?_
  refine X_vcall c_O l_X10_X10_current (m_current hG (d + 46) (s_n10 w) (show (upd (upd J 5 (nI (s_n10 w))) 6 (x_min (J 6 + 1) 8)) 5 = nI (s_n10 w) by rw [updI_ne (show 5 ≠ 6 by decide), updI_eq]) s_n10_lt) rfl rfl rfl rfl (Nat.le_of_ble_eq_true rfl) (Nat.le_of_ble_eq_true rfl) (by omega) (Nat.le_of_ble_eq_true rfl) (Nat.le_of_ble_eq_true rfl) ?_
  refine X_ld rfl rfl rfl rfl ?_
  refine X_ld rfl rfl rfl rfl ?_
  have hb := s_run_bun (gv := s_gv v0 v1 v2 v3) hwf ha hrel
  have hsr : a < s_sm (s_run e (s_gv v0 v1 v2 v3) a) := by rw [← hb.2.2.1.sm]; exact ha
  have hlr : s_lm (s_run e (s_gv v0 v1 v2 v3) a) = s_lm e := hb.1.lm
  refine X_vcall (r_D h10 updR_eq) l_X10_X3_findRows (d_findRows hG (d + 1) (s_n10 w) h10 (e := (s_run e (s_gv v0 v1 v2 v3) a)) hb.2.1 (by rw [updN_eq]; exact s_bun_st hwf hb hst2) hb.2.2.2 hvv a hsr (s_lm e) (hb.2.2.2.1.1.symm.trans (by rw [← hlr]; exact hb.2.1.lmE.1)) (by omega) hxa) rfl rfl rfl rfl (Nat.le_of_ble_eq_true rfl) (Nat.le_of_ble_eq_true rfl) (by omega) (Nat.le_of_ble_eq_true rfl) (Nat.le_of_ble_eq_true rfl) ?_
  refine X_scall l_X10_J13_bitCount_95d88 (j_bitCount hG (d + 46)) rfl rfl rfl (Nat.le_of_ble_eq_true rfl) (Nat.le_of_ble_eq_true rfl) (by omega) (Nat.le_of_ble_eq_true rfl) (Nat.le_of_ble_eq_true rfl) ?_
  refine X_cells (N' := cset B (upd (upd J 5 (nI (s_n10 w))) 6 (x_min (J 6 + 1) 8)) bf K tk ts tl tv (updN su (s_n10 w) (su w)) (updR D (s_n10 w) (s_exc e (D w) (s_gv v0 v1 v2 v3) a))) (y_le.c (y_le_set hqB)) ?_
  exact X_iret rfl rfl ⟨⟨hp1, by rw [ex]; exact hp2⟩, by rw [ex], by rw [ex, s_rws_me, s_bc_me (by omega), ← s_cnt_ce, s_cnt_g hb.2.1 hsr hg4, ← hb.1.cnt (hwf.fok ha) _ (by omega)]⟩ (Nat.le_of_ble_eq_true rfl) (Nat.le_of_ble_eq_true rfl)

