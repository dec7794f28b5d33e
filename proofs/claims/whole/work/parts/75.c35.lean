/-! ===== the class: checksum ===== -/
section XVT
variable {G : XE} {M Mc : XMI} {d mc ms nb0 : Nat} {ad0 : Nat → Nat} {Qn : XH → Option Value → Prop} {Qx : XH → String → Prop} {N N1 : XH} {cells slots pc pc' t : Nat} {L : List (Option Value)}
/-- a call that does not throw, for what it asks for holds -/
theorem X_vcallT {idx n d' mc' ms' o ci nf : Nat} {T : u_T} {V : Nat → Value} {st As rest : List Value} {P : Prop} {v v2 : Value} {X : XH → String → Prop} (hN : N o = some (.inl (ci, V))) (hk : x_LV (x_own M) idx n Mc) (hM : x_M G Mc d' mc' ms' (.ref o :: As) N (x_QnV P N1 v) X)
    (hd : x_at (x_k M) pc = some (.invokevirtual idx, pc', t)) (hst : st = As.reverse ++ .ref o :: rest) (hci : vwCl[ci]? = some ((x_y Mc).cls, T, nf)) (hn : As.length = n) (hrest : (rest.map fun v => v.category).sum ≤ 8) (hL : x_nL Mc ≤ 81) (hdd : d' + 1 ≤ d) (h1 : cells + mc' ≤ mc) (h2 : slots + ms' ≤ ms) (hX : ∀ N' E, ¬ X N' E) (hv : v = v2)
    (kk : x_W G M (x_Z G d mc ms ad0 nb0 Qn Qx) N1 (cells + mc') (slots + ms') pc' L (v2 :: rest)) : x_W G M (x_Z G d mc ms ad0 nb0 Qn Qx) N cells slots pc L st :=
  X_callV (T := T) (nf := nf) hk hM hd hst hN hci hn hrest (x_fit_of hL hdd h1 h2) (fun N' E h => absurd h (hX N' E)) (fun N' r h => by obtain ⟨-, rfl, rfl⟩ := h; rw [← hv] at kk; exact kk)
end XVT
theorem y_in {j m : Nat} (h : j < m) (hm : m < 2147483648) : (0 : Int32) ≤ nI j ∧ nI j < nI m := ⟨nI_ge0 (by omega), (n_lt rfl rfl (by omega) (by omega)).mpr h⟩
theorem y_inE {j m : Nat} {y : Int32} (hy : y = nI m) (h : j < m) (hm : m < 2147483648) : (0 : Int32) ≤ nI j ∧ nI j < y := by rw [hy]; exact y_in h hm
theorem n_nI {j : Nat} (h : j < 2147483648) : n_ (nI j) = j := nI_clamp h
theorem s_stav_told {e c : Nat → Int32} (hrel : s_rel e c) {s : Nat} (hs : s < s_sm e) {n : Nat} (hn : n < 6) : s_stav c s (nI n) = s_told e s n := by
  have h6 : n = 0 ∨ n = 1 ∨ n = 2 ∨ n = 3 ∨ n = 4 ∨ n = 5 := by omega
  have hh := hrel.2.2.2 s hs
  rcases h6 with rfl | rfl | rfl | rfl | rfl | rfl
  · exact (hh 8 (by omega)).symm
  · exact (hh 9 (by omega)).symm
  · exact (hh 10 (by omega)).symm
  · exact (hh 11 (by omega)).symm
  · show (if s_st c s 14 = -2 then 0 else if s_st c s 16 = c 3 then 1 else 2) = s_state e s
    unfold s_state
    rw [hh 14 (by omega), hh 16 (by omega), hrel.1.2.1]
  · exact (hh 13 (by omega)).symm
theorem s_cntv_e {e c : Nat → Int32} (hwf : s_wf e) (hrel : s_rel e c) {n : Nat} (hn : n < 9) : s_cntv e c (nI n) = e n := by
  have h9 : n = 0 ∨ n = 1 ∨ n = 2 ∨ n = 3 ∨ n = 4 ∨ n = 5 ∨ n = 6 ∨ n = 7 ∨ n = 8 := by omega
  rcases h9 with rfl | rfl | rfl | rfl | rfl | rfl | rfl | rfl | rfl
  · rfl
  · exact hrel.1.1.symm
  · exact hwf.smE.1.symm
  · exact hrel.1.2.1.symm
  · rfl
  · rfl
  · rfl
  · rfl
  · exact hrel.1.2.2.symm
theorem s_colv_e {e c : Nat → Int32} (hwf : s_wf e) (hrel : s_rel e c) {j : Nat} (hj : j < s_cm e) {n : Nat} (hn : n < 5) : s_colv e c j (nI n) = s_col e j (8 + n) := by
  have h5 : n = 0 ∨ n = 1 ∨ n = 2 ∨ n = 3 ∨ n = 4 := by omega
  have hh := hrel.2.1 j hj
  rcases h5 with rfl | rfl | rfl | rfl | rfl
  · rfl
  · show (if s_col c j 9 = 0 then 0 else 1) = s_col e j 9
    rw [← hh 9 (by omega) (by omega)]
    rcases (hwf.col j hj).2.1 with h | h
    · rw [h]; rfl
    · rw [h]; rfl
  · exact (hh 10 (by omega) (by omega)).symm
  · exact (hh 11 (by omega) (by omega)).symm
  · exact (hh 12 (by omega) (by omega)).symm
theorem m_addStatement {G : XE} (hG : x_Kn G) (hX : x_KX G) {B : XH} {J bf K tk ts : Nat → Int32} {tl : Int64} {tv : Nat → Int64} {su : Nat → Nat} {D : Nat → Nat → Int32} (d : Nat) (w : Nat) (hw : J 5 = nI w) (hw10 : w < 10) {e : Nat → Int32} (hst : st_at B e (su w)) (hwf : s_wf e) (hrel : s_rel e (D w)) (s : Nat) (hs : s < s_sm e) {t : Int64} : x_M G mX10_addStatement (d + 8) 37 222 [.ref 64, .long t, .int (nI s)] (cset B J bf K tk ts tl tv su D) (x_Ret (cset B J bf K tk ts tl tv su D) (.long (s_sumS e s t))) x_noX := by
  refine X_M hG okX10_addStatement rfl (L := [some (.ref 64), some (.long t), none, some (.int (nI s)), none, none, none]) rfl (Nat.le_of_ble_eq_true rfl) (fun ad0 nb0 => ?_)
  have hsm6 := hwf.smE.2
  have hcm5 := hwf.cmE.2
  have hlm40 := hwf.lmE.2
  have ens : n_ (nI s) = s := n_nI (by omega)
  have loopC : x_W G mX10_addStatement (x_Z G (d + 8) 37 222 ad0 nb0 (x_Ret (cset B J bf K tk ts tl tv su D) (.long (s_sumS e s t))) x_noX) (cset B J bf K tk ts tl tv su D) (22 + 3 * s_cm e) (132 + 18 * s_cm e) 118 [some (.ref 64), none, none, some (.int (nI s)), some (.long (s_fold (fun j => s_st e s (21 + j)) (s_fold (fun h => s_st e s (17 + h)) (s_add (s_fold (fun n => s_told e s n) t 6) (s_st e s 14)) 4) (s_cm e))), none, some (.int (nI (s_cm e)))] [] → ∀ (f9 k : Nat), k + f9 = (s_cm e) → x_W G mX10_addStatement (x_Z G (d + 8) 37 222 ad0 nb0 (x_Ret (cset B J bf K tk ts tl tv su D) (.long (s_sumS e s t))) x_noX) (cset B J bf K tk ts tl tv su D) (21 + 3 * k) (126 + 18 * k) 85 [some (.ref 64), none, none, some (.int (nI s)), some (.long (s_fold (fun j => s_st e s (21 + j)) (s_fold (fun h => s_st e s (17 + h)) (s_add (s_fold (fun n => s_told e s n) t 6) (s_st e s 14)) 4) k)), none, some (.int (nI k))] [] := by
    intro kx9 f9
    induction f9 with
    | zero =>
      intro k e0
      obtain rfl : k = (s_cm e) := by omega
      refine X_ld rfl rfl rfl rfl ?_
      refine X_ld rfl rfl rfl rfl ?_
      refine X_push (v := .int 0) rfl (by decide +kernel) ?_
      refine X_vcallT (v2 := .int (nI (s_cm e))) c_O l_X10_X10_count (m_count hG hX (d + 1) w hw hw10 hst) rfl rfl rfl rfl (Nat.le_of_ble_eq_true rfl) (Nat.le_of_ble_eq_true rfl) (by omega) (by omega) (by omega) (fun _ _ h => h.1 ⟨0, by omega, rfl⟩) (congrArg Value.int ((s_cntv_e hwf hrel (n := 0) (by omega)).trans hwf.cmE.1)) ?_
      refine X_icmp_ge rfl (fun c9 => ?_) (fun c9 => absurd (Int32.le_refl _) c9)
      refine X_room (cells' := (22 + 3 * s_cm e)) (slots' := (132 + 18 * s_cm e)) (by omega) (by omega) ?_
      exact kx9
    | succ f9 ih =>
      intro k e0
      refine X_ld rfl rfl rfl rfl ?_
      refine X_ld rfl rfl rfl rfl ?_
      refine X_push (v := .int 0) rfl (by decide +kernel) ?_
      refine X_vcallT (v2 := .int (nI (s_cm e))) c_O l_X10_X10_count (m_count hG hX (d + 1) w hw hw10 hst) rfl rfl rfl rfl (Nat.le_of_ble_eq_true rfl) (Nat.le_of_ble_eq_true rfl) (by omega) (by omega) (by omega) (fun _ _ h => h.1 ⟨0, by omega, rfl⟩) (congrArg Value.int ((s_cntv_e hwf hrel (n := 0) (by omega)).trans hwf.cmE.1)) ?_
      refine X_icmp_ge rfl (fun c9 => absurd ((n_le rfl rfl (by omega) (by omega)).mp c9) (by omega)) (fun c9 => ?_)
      refine X_ldc2 k_X10_266 rfl ?_
      refine X_ld rfl rfl rfl rfl ?_
      refine X_bin rfl rfl ?_
      refine X_ld rfl rfl rfl rfl ?_
      refine X_ld rfl rfl rfl rfl ?_
      refine X_ld rfl rfl rfl rfl ?_
      refine X_vcallT (v2 := .int (s_st e s (21 + k))) c_O l_X10_X10_learned (m_learned hG hX d w hw hw10 hst hwf) rfl rfl rfl rfl (Nat.le_of_ble_eq_true rfl) (Nat.le_of_ble_eq_true rfl) (by omega) (by omega) (by omega) (fun _ _ h => h.1 ⟨y_in hs (by omega), y_inE hwf.cmE.1 (show k < s_cm e by omega) (by omega)⟩) (by rw [ens, n_nI (by omega), hrel.2.2.2 s hs (21 + k) (by omega)]) ?_
      refine X_un rfl rfl ?_
      refine X_bin rfl rfl ?_
      refine X_stl rfl rfl rfl ?_
      refine X_iinc rfl rfl rfl ?_
      refine X_goto rfl ?_
      refine X_loc (L' := [some (.ref 64), none, none, some (.int (nI s)), some (.long (s_fold (fun j => s_st e s (21 + j)) (s_fold (fun h => s_st e s (17 + h)) (s_add (s_fold (fun n => s_told e s n) t 6) (s_st e s 14)) 4) (k + 1))), none, some (.int (nI (k + 1)))]) ⟨rfl, rfl, rfl, congrArg Value.int (m_inc rfl).symm, trivial⟩ ?_
      refine X_room (cells' := 21 + 3 * (k + 1)) (slots' := 126 + 18 * (k + 1)) (by omega) (by omega) ?_
      exact ih (k + 1) (by omega)
  have loopB : x_W G mX10_addStatement (x_Z G (d + 8) 37 222 ad0 nb0 (x_Ret (cset B J bf K tk ts tl tv su D) (.long (s_sumS e s t))) x_noX) (cset B J bf K tk ts tl tv su D) (13 + 2 * 4) (78 + 12 * 4) 82 [some (.ref 64), none, none, some (.int (nI s)), some (.long (s_fold (fun h => s_st e s (17 + h)) (s_add (s_fold (fun n => s_told e s n) t 6) (s_st e s 14)) 4)), none, some (.int (nI 4))] [] → ∀ (f9 k : Nat), k + f9 = 4 → x_W G mX10_addStatement (x_Z G (d + 8) 37 222 ad0 nb0 (x_Ret (cset B J bf K tk ts tl tv su D) (.long (s_sumS e s t))) x_noX) (cset B J bf K tk ts tl tv su D) (13 + 2 * k) (78 + 12 * k) 53 [some (.ref 64), none, none, some (.int (nI s)), some (.long (s_fold (fun h => s_st e s (17 + h)) (s_add (s_fold (fun n => s_told e s n) t 6) (s_st e s 14)) k)), none, some (.int (nI k))] [] := by
    intro kx9 f9
    induction f9 with
    | zero =>
      intro k e0
      obtain rfl : k = 4 := by omega
      refine X_ld rfl rfl rfl rfl ?_
      refine X_push (v := .int 4) rfl (by decide +kernel) ?_
      refine X_icmp_ge rfl (fun c9 => ?_) (fun c9 => absurd (by decide) c9)
      exact kx9
    | succ f9 ih =>
      intro k e0
      refine X_ld rfl rfl rfl rfl ?_
      refine X_push (v := .int 4) rfl (by decide +kernel) ?_
      refine X_icmp_ge rfl (fun c9 => absurd ((n_le (show (4 : Int32) = nI 4 from rfl) rfl (by omega) (by omega)).mp c9) (by omega)) (fun c9 => ?_)
      refine X_ldc2 k_X10_266 rfl ?_
      refine X_ld rfl rfl rfl rfl ?_
      refine X_bin rfl rfl ?_
      refine X_ld rfl rfl rfl rfl ?_
      refine X_ld rfl rfl rfl rfl ?_
      refine X_ld rfl rfl rfl rfl ?_
      refine X_vcallT (v2 := .int (s_st e s (17 + k))) c_O l_X10_X10_hole (m_hole hG hX d w hw hw10 hst hwf) rfl rfl rfl rfl (Nat.le_of_ble_eq_true rfl) (Nat.le_of_ble_eq_true rfl) (by omega) (by omega) (by omega) (fun _ _ h => h.2.elim (fun z => z.1 (y_in hs (by omega))) (fun z => z.2.1 (⟨nI_ge0 (by omega), (n_lt rfl (show (4 : Int32) = nI 4 from rfl) (by omega) (by omega)).mpr (by omega)⟩))) (by rw [ens, n_nI (by omega)]) ?_
      refine X_un rfl rfl ?_
      refine X_bin rfl rfl ?_
      refine X_stl rfl rfl rfl ?_
      refine X_iinc rfl rfl rfl ?_
      refine X_goto rfl ?_
      refine X_loc (L' := [some (.ref 64), none, none, some (.int (nI s)), some (.long (s_fold (fun h => s_st e s (17 + h)) (s_add (s_fold (fun n => s_told e s n) t 6) (s_st e s 14)) (k + 1))), none, some (.int (nI (k + 1)))]) ⟨rfl, rfl, rfl, congrArg Value.int (m_inc rfl).symm, trivial⟩ ?_
      refine X_room (cells' := 13 + 2 * (k + 1)) (slots' := 78 + 12 * (k + 1)) (by omega) (by omega) ?_
      exact ih (k + 1) (by omega)
  have loopA : x_W G mX10_addStatement (x_Z G (d + 8) 37 222 ad0 nb0 (x_Ret (cset B J bf K tk ts tl tv su D) (.long (s_sumS e s t))) x_noX) (cset B J bf K tk ts tl tv su D) (0 + 2 * 6) (0 + 12 * 6) 35 [some (.ref 64), none, none, some (.int (nI s)), some (.long (s_fold (fun n => s_told e s n) t 6)), none, some (.int (nI 6))] [] → ∀ (f9 k : Nat), k + f9 = 6 → x_W G mX10_addStatement (x_Z G (d + 8) 37 222 ad0 nb0 (x_Ret (cset B J bf K tk ts tl tv su D) (.long (s_sumS e s t))) x_noX) (cset B J bf K tk ts tl tv su D) (0 + 2 * k) (0 + 12 * k) 6 [some (.ref 64), none, none, some (.int (nI s)), some (.long (s_fold (fun n => s_told e s n) t k)), none, some (.int (nI k))] [] := by
    intro kx9 f9
    induction f9 with
    | zero =>
      intro k e0
      obtain rfl : k = 6 := by omega
      refine X_ld rfl rfl rfl rfl ?_
      refine X_push (v := .int 5) rfl (by decide +kernel) ?_
      refine X_icmp_gt rfl (fun c9 => ?_) (fun c9 => absurd (by decide) c9)
      exact kx9
    | succ f9 ih =>
      intro k e0
      refine X_ld rfl rfl rfl rfl ?_
      refine X_push (v := .int 5) rfl (by decide +kernel) ?_
      refine X_icmp_gt rfl (fun c9 => absurd ((n_lt (show (5 : Int32) = nI 5 from rfl) rfl (by omega) (by omega)).mp c9) (by omega)) (fun c9 => ?_)
      refine X_ldc2 k_X10_266 rfl ?_
      refine X_ld rfl rfl rfl rfl ?_
      refine X_bin rfl rfl ?_
      refine X_ld rfl rfl rfl rfl ?_
      refine X_ld rfl rfl rfl rfl ?_
      refine X_ld rfl rfl rfl rfl ?_
      refine X_vcallT (v2 := .int (s_told e s k)) c_O l_X10_X10_statement (m_statement hG hX d w hw hw10 hst hwf) rfl rfl rfl rfl (Nat.le_of_ble_eq_true rfl) (Nat.le_of_ble_eq_true rfl) (by omega) (by omega) (by omega) (fun _ _ h => h.2.elim (fun z => z.1 (y_in hs (by omega))) (fun z => z.2.1 (⟨k, by omega, rfl⟩))) (by rw [ens, s_stav_told hrel hs (by omega)]) ?_
      refine X_un rfl rfl ?_
      refine X_bin rfl rfl ?_
      refine X_stl rfl rfl rfl ?_
      refine X_iinc rfl rfl rfl ?_
      refine X_goto rfl ?_
      refine X_loc (L' := [some (.ref 64), none, none, some (.int (nI s)), some (.long (s_fold (fun n => s_told e s n) t (k + 1))), none, some (.int (nI (k + 1)))]) ⟨rfl, rfl, rfl, congrArg Value.int (m_inc rfl).symm, trivial⟩ ?_
      refine X_room (cells' := 0 + 2 * (k + 1)) (slots' := 0 + 12 * (k + 1)) (by omega) (by omega) ?_
      exact ih (k + 1) (by omega)
  refine X_ld rfl rfl rfl rfl ?_
  refine X_stl rfl rfl rfl ?_
  refine X_push (v := .int 0) rfl (by decide +kernel) ?_
  refine X_st rfl rfl rfl ?_
  refine X_room (cells' := 0 + 2 * 0) (slots' := 0 + 12 * 0) (Nat.le_refl _) (Nat.le_refl _) ?_
  refine X_loc (L' := [some (.ref 64), none, none, some (.int (nI s)), some (.long (s_fold (fun n => s_told e s n) t 0)), none, some (.int (nI 0))]) ⟨rfl, rfl, rfl, rfl, trivial⟩ ?_
  refine loopA ?_ _ 0 (Nat.zero_add _)
  refine X_ldc2 k_X10_266 rfl ?_
  refine X_ld rfl rfl rfl rfl ?_
  refine X_bin rfl rfl ?_
  refine X_ld rfl rfl rfl rfl ?_
  refine X_ld rfl rfl rfl rfl ?_
  refine X_vcallT (v2 := .int (s_st e s 14)) c_O l_X10_X10_kept (m_kept hG hX d w hw hw10 hst hwf) rfl rfl rfl rfl (Nat.le_of_ble_eq_true rfl) (Nat.le_of_ble_eq_true rfl) (by omega) (by omega) (by omega) (fun _ _ h => h.1 (y_in hs (by omega))) (by rw [ens, ← hrel.2.2.2 s hs 14 (by omega)]) ?_
  refine X_un rfl rfl ?_
  refine X_bin rfl rfl ?_
  refine X_stl rfl rfl rfl ?_
  refine X_push (v := .int 0) rfl (by decide +kernel) ?_
  refine X_st rfl rfl rfl ?_
  refine X_room (cells' := 13 + 2 * 0) (slots' := 78 + 12 * 0) (by omega) (by omega) ?_
  refine X_loc (L' := [some (.ref 64), none, none, some (.int (nI s)), some (.long (s_fold (fun h => s_st e s (17 + h)) (s_add (s_fold (fun n => s_told e s n) t 6) (s_st e s 14)) 0)), none, some (.int (nI 0))]) ⟨rfl, rfl, rfl, rfl, trivial⟩ ?_
  refine loopB ?_ _ 0 (Nat.zero_add _)
  refine X_push (v := .int 0) rfl (by decide +kernel) ?_
  refine X_st rfl rfl rfl ?_
  refine X_room (cells' := 21 + 3 * 0) (slots' := 126 + 18 * 0) (by omega) (by omega) ?_
  refine X_loc (L' := [some (.ref 64), none, none, some (.int (nI s)), some (.long (s_fold (fun j => s_st e s (21 + j)) (s_fold (fun h => s_st e s (17 + h)) (s_add (s_fold (fun n => s_told e s n) t 6) (s_st e s 14)) 4) 0)), none, some (.int (nI 0))]) ⟨rfl, rfl, rfl, rfl, trivial⟩ ?_
  refine loopC ?_ _ 0 (Nat.zero_add _)
  refine X_ld rfl rfl rfl rfl ?_
  exact X_lret rfl rfl ⟨rfl, rfl⟩ (by omega) (by omega)
theorem m_checksum {G : XE} (hG : x_Kn G) (hX : x_KX G) {B : XH} {J bf K tk ts : Nat → Int32} {tl : Int64} {tv : Nat → Int64} {su : Nat → Nat} {D : Nat → Nat → Int32} (d : Nat) (w : Nat) (hw : J 5 = nI w) (hw10 : w < 10) {e : Nat → Int32} (hst : st_at B e (su w)) (hwf : s_wf e) (hrel : s_rel e (D w)) : x_M G mX10_checksum (d + 9) 975 5850 [.ref 64] (cset B J bf K tk ts tl tv su D) (x_Ret (cset B J bf K tk ts tl tv su D) (.long (s_sum e))) x_noX := by
  refine X_M hG okX10_checksum rfl (L := [some (.ref 64), none, none, none, none]) rfl (Nat.le_of_ble_eq_true rfl) (fun ad0 nb0 => ?_)
  have hsm6 := hwf.smE.2
  have hcm5 := hwf.cmE.2
  have hlm40 := hwf.lmE.2
  have loop4 : x_W G mX10_checksum (x_Z G (d + 9) 975 5850 ad0 nb0 (x_Ret (cset B J bf K tk ts tl tv su D) (.long (s_sum e))) x_noX) (cset B J bf K tk ts tl tv su D) (747 + 38 * s_sm e) (6 * (747 + 38 * s_sm e)) 151 [some (.ref 64), some (.long (s_foldF (fun s t => s_sumS e s t) (s_foldF (fun l t => s_fold (fun j => s_val e l j) t (s_cm e)) (s_foldF (fun j t => s_fold (fun n => s_col e j (8 + n)) t 5) (s_fold (fun n => e n) 0 9) (s_cm e)) (s_lm e)) (s_sm e))), none, some (.int (nI (s_sm e))), none] [] → ∀ (f9 s : Nat), s + f9 = (s_sm e) → x_W G mX10_checksum (x_Z G (d + 9) 975 5850 ad0 nb0 (x_Ret (cset B J bf K tk ts tl tv su D) (.long (s_sum e))) x_noX) (cset B J bf K tk ts tl tv su D) (746 + 38 * s) (6 * (746 + 38 * s)) 129 [some (.ref 64), some (.long (s_foldF (fun s t => s_sumS e s t) (s_foldF (fun l t => s_fold (fun j => s_val e l j) t (s_cm e)) (s_foldF (fun j t => s_fold (fun n => s_col e j (8 + n)) t 5) (s_fold (fun n => e n) 0 9) (s_cm e)) (s_lm e)) s)), none, some (.int (nI s)), none] [] := by
    intro kx9 f9
    induction f9 with
    | zero =>
      intro s e0
      obtain rfl : s = (s_sm e) := by omega
      refine X_ld rfl rfl rfl rfl ?_
      refine X_ld rfl rfl rfl rfl ?_
      refine X_push (v := .int 2) rfl (by decide +kernel) ?_
      refine X_vcallT (v2 := .int (nI (s_sm e))) c_O l_X10_X10_count (m_count hG hX (d + 2) w hw hw10 hst) rfl rfl rfl rfl (Nat.le_of_ble_eq_true rfl) (Nat.le_of_ble_eq_true rfl) (by omega) (by omega) (by omega) (fun _ _ h => h.1 ⟨2, by omega, rfl⟩) (congrArg Value.int ((s_cntv_e hwf hrel (n := 2) (by omega)).trans hwf.smE.1)) ?_
      refine X_icmp_ge rfl (fun c9 => ?_) (fun c9 => absurd (Int32.le_refl _) c9)
      refine X_room (cells' := (747 + 38 * s_sm e)) (slots' := (6 * (747 + 38 * s_sm e))) (by omega) (by omega) ?_
      exact kx9
    | succ f9 ih =>
      intro s e0
      refine X_ld rfl rfl rfl rfl ?_
      refine X_ld rfl rfl rfl rfl ?_
      refine X_push (v := .int 2) rfl (by decide +kernel) ?_
      refine X_vcallT (v2 := .int (nI (s_sm e))) c_O l_X10_X10_count (m_count hG hX (d + 2) w hw hw10 hst) rfl rfl rfl rfl (Nat.le_of_ble_eq_true rfl) (Nat.le_of_ble_eq_true rfl) (by omega) (by omega) (by omega) (fun _ _ h => h.1 ⟨2, by omega, rfl⟩) (congrArg Value.int ((s_cntv_e hwf hrel (n := 2) (by omega)).trans hwf.smE.1)) ?_
      refine X_icmp_ge rfl (fun c9 => absurd ((n_le rfl rfl (by omega) (by omega)).mp c9) (by omega)) (fun c9 => ?_)
      refine X_ld rfl rfl rfl rfl ?_
      refine X_ld rfl rfl rfl rfl ?_
      refine X_ld rfl rfl rfl rfl ?_
      refine X_vcall c_O l_X10_X10_addStatement (m_addStatement hG hX d w hw hw10 hst hwf hrel s (by omega)) rfl rfl rfl rfl (Nat.le_of_ble_eq_true rfl) (Nat.le_of_ble_eq_true rfl) (by omega) (by omega) (by omega) ?_
      refine X_stl rfl rfl rfl ?_
      refine X_iinc rfl rfl rfl ?_
      refine X_goto rfl ?_
      refine X_loc (L' := [some (.ref 64), some (.long (s_foldF (fun s t => s_sumS e s t) (s_foldF (fun l t => s_fold (fun j => s_val e l j) t (s_cm e)) (s_foldF (fun j t => s_fold (fun n => s_col e j (8 + n)) t 5) (s_fold (fun n => e n) 0 9) (s_cm e)) (s_lm e)) (s + 1))), none, some (.int (nI (s + 1))), none]) ⟨rfl, rfl, congrArg Value.int (m_inc rfl).symm, trivial⟩ ?_
      refine X_room (cells' := 746 + 38 * (s + 1)) (slots' := 6 * (746 + 38 * (s + 1))) (by omega) (by omega) ?_
      exact ih (s + 1) (by omega)
  have loop3 : x_W G mX10_checksum (x_Z G (d + 9) 975 5850 ad0 nb0 (x_Ret (cset B J bf K tk ts tl tv su D) (.long (s_sum e))) x_noX) (cset B J bf K tk ts tl tv su D) (66 + 17 * s_lm e) (6 * (66 + 17 * s_lm e)) 127 [some (.ref 64), some (.long (s_foldF (fun l t => s_fold (fun j => s_val e l j) t (s_cm e)) (s_foldF (fun j t => s_fold (fun n => s_col e j (8 + n)) t 5) (s_fold (fun n => e n) 0 9) (s_cm e)) (s_lm e))), none, some (.int (nI (s_lm e))), none] [] → ∀ (f9 l : Nat), l + f9 = (s_lm e) → x_W G mX10_checksum (x_Z G (d + 9) 975 5850 ad0 nb0 (x_Ret (cset B J bf K tk ts tl tv su D) (.long (s_sum e))) x_noX) (cset B J bf K tk ts tl tv su D) (65 + 17 * l) (6 * (65 + 17 * l)) 78 [some (.ref 64), some (.long (s_foldF (fun l t => s_fold (fun j => s_val e l j) t (s_cm e)) (s_foldF (fun j t => s_fold (fun n => s_col e j (8 + n)) t 5) (s_fold (fun n => e n) 0 9) (s_cm e)) l)), none, some (.int (nI l)), none] [] := by
    intro kx9 f9
    induction f9 with
    | zero =>
      intro l e0
      obtain rfl : l = (s_lm e) := by omega
      refine X_ld rfl rfl rfl rfl ?_
      refine X_ld rfl rfl rfl rfl ?_
      refine X_push (v := .int 1) rfl (by decide +kernel) ?_
      refine X_vcallT (v2 := .int (nI (s_lm e))) c_O l_X10_X10_count (m_count hG hX (d + 2) w hw hw10 hst) rfl rfl rfl rfl (Nat.le_of_ble_eq_true rfl) (Nat.le_of_ble_eq_true rfl) (by omega) (by omega) (by omega) (fun _ _ h => h.1 ⟨1, by omega, rfl⟩) (congrArg Value.int ((s_cntv_e hwf hrel (n := 1) (by omega)).trans hwf.lmE.1)) ?_
      refine X_icmp_ge rfl (fun c9 => ?_) (fun c9 => absurd (Int32.le_refl _) c9)
      refine X_room (cells' := (66 + 17 * s_lm e)) (slots' := (6 * (66 + 17 * s_lm e))) (by omega) (by omega) ?_
      exact kx9
    | succ f9 ih =>
      intro l e0
      refine X_ld rfl rfl rfl rfl ?_
      refine X_ld rfl rfl rfl rfl ?_
      refine X_push (v := .int 1) rfl (by decide +kernel) ?_
      refine X_vcallT (v2 := .int (nI (s_lm e))) c_O l_X10_X10_count (m_count hG hX (d + 2) w hw hw10 hst) rfl rfl rfl rfl (Nat.le_of_ble_eq_true rfl) (Nat.le_of_ble_eq_true rfl) (by omega) (by omega) (by omega) (fun _ _ h => h.1 ⟨1, by omega, rfl⟩) (congrArg Value.int ((s_cntv_e hwf hrel (n := 1) (by omega)).trans hwf.lmE.1)) ?_
      refine X_icmp_ge rfl (fun c9 => absurd ((n_le rfl rfl (by omega) (by omega)).mp c9) (by omega)) (fun c9 => ?_)
      have in3 : x_W G mX10_checksum (x_Z G (d + 9) 975 5850 ad0 nb0 (x_Ret (cset B J bf K tk ts tl tv su D) (.long (s_sum e))) x_noX) (cset B J bf K tk ts tl tv su D) ((65 + 17 * l) + 1 + 3 * (s_cm e) + 1) (6 * ((65 + 17 * l) + 1 + 3 * (s_cm e) + 1)) 121 [some (.ref 64), some (.long (s_fold (fun j => s_val e l j) (s_foldF (fun l t => s_fold (fun j => s_val e l j) t (s_cm e)) (s_foldF (fun j t => s_fold (fun n => s_col e j (8 + n)) t 5) (s_fold (fun n => e n) 0 9) (s_cm e)) l) (s_cm e))), none, some (.int (nI l)), some (.int (nI (s_cm e)))] [] → ∀ (f8 j : Nat), j + f8 = (s_cm e) → x_W G mX10_checksum (x_Z G (d + 9) 975 5850 ad0 nb0 (x_Ret (cset B J bf K tk ts tl tv su D) (.long (s_sum e))) x_noX) (cset B J bf K tk ts tl tv su D) ((65 + 17 * l) + 1 + 3 * j) (6 * ((65 + 17 * l) + 1 + 3 * j)) 90 [some (.ref 64), some (.long (s_fold (fun j => s_val e l j) (s_foldF (fun l t => s_fold (fun j => s_val e l j) t (s_cm e)) (s_foldF (fun j t => s_fold (fun n => s_col e j (8 + n)) t 5) (s_fold (fun n => e n) 0 9) (s_cm e)) l) j)), none, some (.int (nI l)), some (.int (nI j))] [] := by
        intro kx8 f8
        induction f8 with
        | zero =>
          intro j e8
          obtain rfl : j = (s_cm e) := by omega
          refine X_ld rfl rfl rfl rfl ?_
          refine X_ld rfl rfl rfl rfl ?_
          refine X_push (v := .int 0) rfl (by decide +kernel) ?_
          refine X_vcallT (v2 := .int (nI (s_cm e))) c_O l_X10_X10_count (m_count hG hX (d + 2) w hw hw10 hst) rfl rfl rfl rfl (Nat.le_of_ble_eq_true rfl) (Nat.le_of_ble_eq_true rfl) (by omega) (by omega) (by omega) (fun _ _ h => h.1 ⟨0, by omega, rfl⟩) (congrArg Value.int ((s_cntv_e hwf hrel (n := 0) (by omega)).trans hwf.cmE.1)) ?_
          refine X_icmp_ge rfl (fun c9 => ?_) (fun c9 => absurd (Int32.le_refl _) c9)
          refine X_room (cells' := ((65 + 17 * l) + 1 + 3 * (s_cm e) + 1)) (slots' := (6 * ((65 + 17 * l) + 1 + 3 * (s_cm e) + 1))) (by omega) (by omega) ?_
          exact kx8
        | succ f8 ih2 =>
          intro j e8
          refine X_ld rfl rfl rfl rfl ?_
          refine X_ld rfl rfl rfl rfl ?_
          refine X_push (v := .int 0) rfl (by decide +kernel) ?_
          refine X_vcallT (v2 := .int (nI (s_cm e))) c_O l_X10_X10_count (m_count hG hX (d + 2) w hw hw10 hst) rfl rfl rfl rfl (Nat.le_of_ble_eq_true rfl) (Nat.le_of_ble_eq_true rfl) (by omega) (by omega) (by omega) (fun _ _ h => h.1 ⟨0, by omega, rfl⟩) (congrArg Value.int ((s_cntv_e hwf hrel (n := 0) (by omega)).trans hwf.cmE.1)) ?_
          refine X_icmp_ge rfl (fun c9 => absurd ((n_le rfl rfl (by omega) (by omega)).mp c9) (by omega)) (fun c9 => ?_)
          refine X_ldc2 k_X10_266 rfl ?_
          refine X_ld rfl rfl rfl rfl ?_
          refine X_bin rfl rfl ?_
          refine X_ld rfl rfl rfl rfl ?_
          refine X_ld rfl rfl rfl rfl ?_
          refine X_ld rfl rfl rfl rfl ?_
          refine X_vcallT (v2 := .int (s_val e l j)) c_O l_X10_X10_value (m_value hG hX (d + 1) w hw hw10 hst hwf hrel) rfl rfl rfl rfl (Nat.le_of_ble_eq_true rfl) (Nat.le_of_ble_eq_true rfl) (by omega) (by omega) (by omega) (fun _ _ h => h.1 ⟨y_inE (hrel.1.1.symm.trans hwf.lmE.1) (show l < s_lm e by omega) (by omega), y_inE hwf.cmE.1 (show j < s_cm e by omega) (by omega)⟩) (by rw [n_nI (by omega), n_nI (by omega), ← hrel.2.2.1 l (by omega) j (by omega)]) ?_
          refine X_un rfl rfl ?_
          refine X_bin rfl rfl ?_
          refine X_stl rfl rfl rfl ?_
          refine X_iinc rfl rfl rfl ?_
          refine X_goto rfl ?_
          refine X_loc (L' := [some (.ref 64), some (.long (s_fold (fun j => s_val e l j) (s_foldF (fun l t => s_fold (fun j => s_val e l j) t (s_cm e)) (s_foldF (fun j t => s_fold (fun n => s_col e j (8 + n)) t 5) (s_fold (fun n => e n) 0 9) (s_cm e)) l) (j + 1))), none, some (.int (nI l)), some (.int (nI (j + 1)))]) ⟨rfl, rfl, rfl, congrArg Value.int (m_inc rfl).symm, trivial⟩ ?_
          refine X_room (cells' := (65 + 17 * l) + 1 + 3 * (j + 1)) (slots' := 6 * ((65 + 17 * l) + 1 + 3 * (j + 1))) (by omega) (by omega) ?_
          exact ih2 (j + 1) (by omega)
      refine X_push (v := .int 0) rfl (by decide +kernel) ?_
      refine X_st rfl rfl rfl ?_
      refine X_room (cells' := (65 + 17 * l) + 1 + 3 * 0) (slots' := 6 * ((65 + 17 * l) + 1 + 3 * 0)) (by omega) (by omega) ?_
      refine X_loc (L' := [some (.ref 64), some (.long (s_fold (fun j => s_val e l j) (s_foldF (fun l t => s_fold (fun j => s_val e l j) t (s_cm e)) (s_foldF (fun j t => s_fold (fun n => s_col e j (8 + n)) t 5) (s_fold (fun n => e n) 0 9) (s_cm e)) l) 0)), none, some (.int (nI l)), some (.int (nI 0))]) ⟨rfl, rfl, rfl, rfl, trivial⟩ ?_
      refine in3 ?_ _ 0 (Nat.zero_add _)
      refine X_iinc rfl rfl rfl ?_
      refine X_goto rfl ?_
      refine X_loc (L' := [some (.ref 64), some (.long (s_foldF (fun l t => s_fold (fun j => s_val e l j) t (s_cm e)) (s_foldF (fun j t => s_fold (fun n => s_col e j (8 + n)) t 5) (s_fold (fun n => e n) 0 9) (s_cm e)) (l + 1))), none, some (.int (nI (l + 1))), none]) ⟨rfl, rfl, congrArg Value.int (m_inc rfl).symm, trivial⟩ ?_
      refine X_room (cells' := 65 + 17 * (l + 1)) (slots' := 6 * (65 + 17 * (l + 1))) (by omega) (by omega) ?_
      exact ih (l + 1) (by omega)
  have loop2 : x_W G mX10_checksum (x_Z G (d + 9) 975 5850 ad0 nb0 (x_Ret (cset B J bf K tk ts tl tv su D) (.long (s_sum e))) x_noX) (cset B J bf K tk ts tl tv su D) (10 + 11 * s_cm e) (6 * (10 + 11 * s_cm e)) 76 [some (.ref 64), some (.long (s_foldF (fun j t => s_fold (fun n => s_col e j (8 + n)) t 5) (s_fold (fun n => e n) 0 9) (s_cm e))), none, some (.int (nI (s_cm e))), none] [] → ∀ (f9 j : Nat), j + f9 = (s_cm e) → x_W G mX10_checksum (x_Z G (d + 9) 975 5850 ad0 nb0 (x_Ret (cset B J bf K tk ts tl tv su D) (.long (s_sum e))) x_noX) (cset B J bf K tk ts tl tv su D) (9 + 11 * j) (6 * (9 + 11 * j)) 31 [some (.ref 64), some (.long (s_foldF (fun j t => s_fold (fun n => s_col e j (8 + n)) t 5) (s_fold (fun n => e n) 0 9) j)), none, some (.int (nI j)), none] [] := by
    intro kx9 f9
    induction f9 with
    | zero =>
      intro j e0
      obtain rfl : j = (s_cm e) := by omega
      refine X_ld rfl rfl rfl rfl ?_
      refine X_ld rfl rfl rfl rfl ?_
      refine X_push (v := .int 0) rfl (by decide +kernel) ?_
      refine X_vcallT (v2 := .int (nI (s_cm e))) c_O l_X10_X10_count (m_count hG hX (d + 2) w hw hw10 hst) rfl rfl rfl rfl (Nat.le_of_ble_eq_true rfl) (Nat.le_of_ble_eq_true rfl) (by omega) (by omega) (by omega) (fun _ _ h => h.1 ⟨0, by omega, rfl⟩) (congrArg Value.int ((s_cntv_e hwf hrel (n := 0) (by omega)).trans hwf.cmE.1)) ?_
      refine X_icmp_ge rfl (fun c9 => ?_) (fun c9 => absurd (Int32.le_refl _) c9)
      refine X_room (cells' := (10 + 11 * s_cm e)) (slots' := (6 * (10 + 11 * s_cm e))) (by omega) (by omega) ?_
      exact kx9
    | succ f9 ih =>
      intro j e0
      refine X_ld rfl rfl rfl rfl ?_
      refine X_ld rfl rfl rfl rfl ?_
      refine X_push (v := .int 0) rfl (by decide +kernel) ?_
      refine X_vcallT (v2 := .int (nI (s_cm e))) c_O l_X10_X10_count (m_count hG hX (d + 2) w hw hw10 hst) rfl rfl rfl rfl (Nat.le_of_ble_eq_true rfl) (Nat.le_of_ble_eq_true rfl) (by omega) (by omega) (by omega) (fun _ _ h => h.1 ⟨0, by omega, rfl⟩) (congrArg Value.int ((s_cntv_e hwf hrel (n := 0) (by omega)).trans hwf.cmE.1)) ?_
      refine X_icmp_ge rfl (fun c9 => absurd ((n_le rfl rfl (by omega) (by omega)).mp c9) (by omega)) (fun c9 => ?_)
      have in2 : x_W G mX10_checksum (x_Z G (d + 9) 975 5850 ad0 nb0 (x_Ret (cset B J bf K tk ts tl tv su D) (.long (s_sum e))) x_noX) (cset B J bf K tk ts tl tv su D) ((9 + 11 * j) + 1 + 2 * 5) (6 * ((9 + 11 * j) + 1 + 2 * 5)) 70 [some (.ref 64), some (.long (s_fold (fun n => s_col e j (8 + n)) (s_foldF (fun j t => s_fold (fun n => s_col e j (8 + n)) t 5) (s_fold (fun n => e n) 0 9) j) 5)), none, some (.int (nI j)), some (.int (nI 5))] [] → ∀ (f8 n : Nat), n + f8 = 5 → x_W G mX10_checksum (x_Z G (d + 9) 975 5850 ad0 nb0 (x_Ret (cset B J bf K tk ts tl tv su D) (.long (s_sum e))) x_noX) (cset B J bf K tk ts tl tv su D) ((9 + 11 * j) + 1 + 2 * n) (6 * ((9 + 11 * j) + 1 + 2 * n)) 43 [some (.ref 64), some (.long (s_fold (fun n => s_col e j (8 + n)) (s_foldF (fun j t => s_fold (fun n => s_col e j (8 + n)) t 5) (s_fold (fun n => e n) 0 9) j) n)), none, some (.int (nI j)), some (.int (nI n))] [] := by
        intro kx8 f8
        induction f8 with
        | zero =>
          intro n e8
          obtain rfl : n = 5 := by omega
          refine X_ld rfl rfl rfl rfl ?_
          refine X_push (v := .int 4) rfl (by decide +kernel) ?_
          refine X_icmp_gt rfl (fun c9 => ?_) (fun c9 => absurd (by decide) c9)
          refine X_room (cells' := ((9 + 11 * j) + 1 + 2 * 5)) (slots' := (6 * ((9 + 11 * j) + 1 + 2 * 5))) (by omega) (by omega) ?_
          exact kx8
        | succ f8 ih2 =>
          intro n e8
          refine X_ld rfl rfl rfl rfl ?_
          refine X_push (v := .int 4) rfl (by decide +kernel) ?_
          refine X_icmp_gt rfl (fun c9 => absurd ((n_lt (show (4 : Int32) = nI 4 from rfl) rfl (by omega) (by omega)).mp c9) (by omega)) (fun c9 => ?_)
          refine X_ldc2 k_X10_266 rfl ?_
          refine X_ld rfl rfl rfl rfl ?_
          refine X_bin rfl rfl ?_
          refine X_ld rfl rfl rfl rfl ?_
          refine X_ld rfl rfl rfl rfl ?_
          refine X_ld rfl rfl rfl rfl ?_
          refine X_vcallT (v2 := .int (s_col e j (8 + n))) c_O l_X10_X10_column (m_column hG hX (d + 1) w hw hw10 hst hwf) rfl rfl rfl rfl (Nat.le_of_ble_eq_true rfl) (Nat.le_of_ble_eq_true rfl) (by omega) (by omega) (by omega) (fun _ _ h => h.2.elim (fun z => z.1 (y_inE hwf.cmE.1 (show j < s_cm e by omega) (by omega))) (fun z => z.2.1 (⟨n, by omega, rfl⟩))) (by rw [n_nI (by omega), s_colv_e hwf hrel (by omega) (by omega)]) ?_
          refine X_un rfl rfl ?_
          refine X_bin rfl rfl ?_
          refine X_stl rfl rfl rfl ?_
          refine X_iinc rfl rfl rfl ?_
          refine X_goto rfl ?_
          refine X_loc (L' := [some (.ref 64), some (.long (s_fold (fun n => s_col e j (8 + n)) (s_foldF (fun j t => s_fold (fun n => s_col e j (8 + n)) t 5) (s_fold (fun n => e n) 0 9) j) (n + 1))), none, some (.int (nI j)), some (.int (nI (n + 1)))]) ⟨rfl, rfl, rfl, congrArg Value.int (m_inc rfl).symm, trivial⟩ ?_
          refine X_room (cells' := (9 + 11 * j) + 1 + 2 * (n + 1)) (slots' := 6 * ((9 + 11 * j) + 1 + 2 * (n + 1))) (by omega) (by omega) ?_
          exact ih2 (n + 1) (by omega)
      refine X_push (v := .int 0) rfl (by decide +kernel) ?_
      refine X_st rfl rfl rfl ?_
      refine X_room (cells' := (9 + 11 * j) + 1 + 2 * 0) (slots' := 6 * ((9 + 11 * j) + 1 + 2 * 0)) (by omega) (by omega) ?_
      refine X_loc (L' := [some (.ref 64), some (.long (s_fold (fun n => s_col e j (8 + n)) (s_foldF (fun j t => s_fold (fun n => s_col e j (8 + n)) t 5) (s_fold (fun n => e n) 0 9) j) 0)), none, some (.int (nI j)), some (.int (nI 0))]) ⟨rfl, rfl, rfl, rfl, trivial⟩ ?_
      refine in2 ?_ _ 0 (Nat.zero_add _)
      refine X_iinc rfl rfl rfl ?_
      refine X_goto rfl ?_
      refine X_loc (L' := [some (.ref 64), some (.long (s_foldF (fun j t => s_fold (fun n => s_col e j (8 + n)) t 5) (s_fold (fun n => e n) 0 9) (j + 1))), none, some (.int (nI (j + 1))), none]) ⟨rfl, rfl, congrArg Value.int (m_inc rfl).symm, trivial⟩ ?_
      refine X_room (cells' := 9 + 11 * (j + 1)) (slots' := 6 * (9 + 11 * (j + 1))) (by omega) (by omega) ?_
      exact ih (j + 1) (by omega)
  have loop1 : x_W G mX10_checksum (x_Z G (d + 9) 975 5850 ad0 nb0 (x_Ret (cset B J bf K tk ts tl tv su D) (.long (s_sum e))) x_noX) (cset B J bf K tk ts tl tv su D) (1 * 9) (6 * (1 * 9)) 29 [some (.ref 64), some (.long (s_fold (fun n => e n) 0 9)), none, some (.int (nI 9)), none] [] → ∀ (f9 n : Nat), n + f9 = 9 → x_W G mX10_checksum (x_Z G (d + 9) 975 5850 ad0 nb0 (x_Ret (cset B J bf K tk ts tl tv su D) (.long (s_sum e))) x_noX) (cset B J bf K tk ts tl tv su D) (1 * n) (6 * (1 * n)) 4 [some (.ref 64), some (.long (s_fold (fun n => e n) 0 n)), none, some (.int (nI n)), none] [] := by
    intro kx9 f9
    induction f9 with
    | zero =>
      intro n e0
      obtain rfl : n = 9 := by omega
      refine X_ld rfl rfl rfl rfl ?_
      refine X_push (v := .int 8) rfl (by decide +kernel) ?_
      refine X_icmp_gt rfl (fun c9 => ?_) (fun c9 => absurd (by decide) c9)
      exact kx9
    | succ f9 ih =>
      intro n e0
      refine X_ld rfl rfl rfl rfl ?_
      refine X_push (v := .int 8) rfl (by decide +kernel) ?_
      refine X_icmp_gt rfl (fun c9 => absurd ((n_lt (show (8 : Int32) = nI 8 from rfl) rfl (by omega) (by omega)).mp c9) (by omega)) (fun c9 => ?_)
      refine X_ldc2 k_X10_266 rfl ?_
      refine X_ld rfl rfl rfl rfl ?_
      refine X_bin rfl rfl ?_
      refine X_ld rfl rfl rfl rfl ?_
      refine X_ld rfl rfl rfl rfl ?_
      refine X_vcallT (v2 := .int (e n)) c_O l_X10_X10_count (m_count hG hX (d + 2) w hw hw10 hst) rfl rfl rfl rfl (Nat.le_of_ble_eq_true rfl) (Nat.le_of_ble_eq_true rfl) (by omega) (by omega) (by omega) (fun _ _ h => h.1 ⟨n, by omega, rfl⟩) (by rw [s_cntv_e hwf hrel (by omega)]) ?_
      refine X_un rfl rfl ?_
      refine X_bin rfl rfl ?_
      refine X_stl rfl rfl rfl ?_
      refine X_iinc rfl rfl rfl ?_
      refine X_goto rfl ?_
      refine X_loc (L' := [some (.ref 64), some (.long (s_fold (fun n => e n) 0 (n + 1))), none, some (.int (nI (n + 1))), none]) ⟨rfl, rfl, congrArg Value.int (m_inc rfl).symm, trivial⟩ ?_
      refine X_room (cells' := 1 * (n + 1)) (slots' := 6 * (1 * (n + 1))) (by omega) (by omega) ?_
      exact ih (n + 1) (by omega)
  refine X_push (v := .long 0) rfl (by decide +kernel) ?_
  refine X_stl rfl rfl rfl ?_
  refine X_push (v := .int 0) rfl (by decide +kernel) ?_
  refine X_st rfl rfl rfl ?_
  refine X_room (cells' := 1 * 0) (slots' := 6 * (1 * 0)) (by omega) (by omega) ?_
  refine X_loc (L' := [some (.ref 64), some (.long (s_fold (fun n => e n) 0 0)), none, some (.int (nI 0)), none]) ⟨rfl, rfl, rfl, trivial⟩ ?_
  refine loop1 ?_ _ 0 (Nat.zero_add _)
  refine X_push (v := .int 0) rfl (by decide +kernel) ?_
  refine X_st rfl rfl rfl ?_
  refine X_room (cells' := 9 + 11 * 0) (slots' := 6 * (9 + 11 * 0)) (by omega) (by omega) ?_
  refine X_loc (L' := [some (.ref 64), some (.long (s_foldF (fun j t => s_fold (fun n => s_col e j (8 + n)) t 5) (s_fold (fun n => e n) 0 9) 0)), none, some (.int (nI 0)), none]) ⟨rfl, rfl, rfl, trivial⟩ ?_
  refine loop2 ?_ _ 0 (Nat.zero_add _)
  refine X_push (v := .int 0) rfl (by decide +kernel) ?_
  refine X_st rfl rfl rfl ?_
  refine X_room (cells' := 65 + 17 * 0) (slots' := 6 * (65 + 17 * 0)) (by omega) (by omega) ?_
  refine X_loc (L' := [some (.ref 64), some (.long (s_foldF (fun l t => s_fold (fun j => s_val e l j) t (s_cm e)) (s_foldF (fun j t => s_fold (fun n => s_col e j (8 + n)) t 5) (s_fold (fun n => e n) 0 9) (s_cm e)) 0)), none, some (.int (nI 0)), none]) ⟨rfl, rfl, rfl, trivial⟩ ?_
  refine loop3 ?_ _ 0 (Nat.zero_add _)
  refine X_push (v := .int 0) rfl (by decide +kernel) ?_
  refine X_st rfl rfl rfl ?_
  refine X_room (cells' := 746 + 38 * 0) (slots' := 6 * (746 + 38 * 0)) (by omega) (by omega) ?_
  refine X_loc (L' := [some (.ref 64), some (.long (s_foldF (fun s t => s_sumS e s t) (s_foldF (fun l t => s_fold (fun j => s_val e l j) t (s_cm e)) (s_foldF (fun j t => s_fold (fun n => s_col e j (8 + n)) t 5) (s_fold (fun n => e n) 0 9) (s_cm e)) (s_lm e)) 0)), none, some (.int (nI 0)), none]) ⟨rfl, rfl, rfl, trivial⟩ ?_
  refine loop4 ?_ _ 0 (Nat.zero_add _)
  refine X_ld rfl rfl rfl rfl ?_
  exact X_lret rfl rfl ⟨rfl, rfl⟩ (by omega) (by omega)
