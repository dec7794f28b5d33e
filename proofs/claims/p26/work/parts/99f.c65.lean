/-! ===== the class's reader: a statement is put into the list ===== -/
theorem y_lb_kp2 {B B' : XH} {a b el n nb : Nat} {m mb : Int32} {p pb : Nat → Nat} (h2 : B 2 = none) (hl : y_lb B a m el n p) (hb : y_lb B b mb 2 nb pb) (hkp : y_kp B B' b 2) (hb' : ∃ V, B' b = some (.inl (0, V))) (hab : a ≠ b) : y_lb B' a m el n p := by
  rcases hl.2.2 with ⟨g1, g2⟩ | ⟨cap, f, g1, g2, g3, g4⟩
  · exact ⟨hl.1, hkp _ _ hab (fun e => by rw [← e, hl.2.1] at h2; cases h2) hl.2.1, Or.inl ⟨g1, g2⟩⟩
  · exact y_lb_kp h2 hl hb hkp hb' hab (fun e => by rw [e, h2] at g3; cases g3)
theorem w_pr116 {G : XE} (hG : x_Kn G) (hK : x_KS G) (hM : x_KM G) {B : XH} {J bf K tk ts : Nat → Int32} {tl : Int64} {tv : Nat → Int64} {su : Nat → Nat} {D : Nat → Nat → Int32} {ρ : Nat → Nat} (hρ : y_ds ρ B) {i : Nat} {er ea : Int32} {sv ty hv : Nat → Int32} {nm : Nat → Int64} (d : Nat) {F : XH} {W po co ht sg elS s : Nat} {st mS : Int32} {z : Int64} {p0 pS : Nat → Nat} {l : List Nat} (hX : B 0 = none ∧ B 2 = none) (hpo : s_out po) (hP : B po = some (.inl (4, pV z co ht sg))) (hlb : y_lb B sg 0 2 0 p0) (hF : y_le F B) (hFa : F sg = none) (hFe : F 2 = none) (hsg : t_sg F W co l) (hW : W ≤ 15) (hln : l.length ≤ 300) (hS : y_lb B (ρ 5) mS elS s pS) (hs6 : s ≤ 7) (hne : ρ 5 ≠ sg) (her : er = 0) {mc ms nb0 cells slots : Nat} {ad0 : Nat → Nat} {Qn : XH → Option Value → Prop} (hc : cells + l.length + 1 ≤ mc) (hs : slots + y_gt 0 l.length + y_gs s ≤ ms) (kk : ∀ (B5 B6 : XH) (el5 elS6 : Nat) (m5 : Int32), y_lb B5 sg m5 el5 (0 + l.length) (y_ap p0 0 l) → y_kp B B5 sg 2 → (el5 = 2 ∨ B el5 = none) → y_ds ρ B6 → (B6 0 = none ∧ B6 2 = none) → y_lb B6 (ρ 5) (mS + 1) elS6 (s + 1) (updF pS s po) → y_kp B5 B6 (ρ 5) elS → (elS6 = elS ∧ ¬ elS = 2 ∨ B5 elS6 = none) → 64 ≤ elS6 → Qn (cset (rset B6 ρ i er ea sv nm ty hv) J bf K tk ts tl tv su D) none) : x_W G mX6_readPrepare (x_Z G (d + 28) mc ms ad0 nb0 Qn x_noX) (cset (rset B ρ i er ea sv nm ty hv) J bf K tk ts tl tv su D) cells slots 116 [some (.ref (ρ 0)), some (.int st), some (.long z), none, some (.ref ht), some (.ref po)] [] := by
  have hpl := y_lb_ne hX.2 hlb hP (by decide)
  have hpS := y_lb_ne hX.2 hS hP (by decide)
  refine X_ld rfl rfl rfl rfl ?_
  refine X_get f_X6_98 rfl (c_B (hρ.o 0 (by decide)) rs_r) (v := .int er) rfl ?_
  refine X_if_ne rfl (fun c98 => absurd her c98) (fun _ => ?_)
  refine X_ld rfl rfl rfl rfl ?_
  refine X_get f_X6_178 rfl (rc_B hρ hpo hP) rfl ?_
  refine X_ld rfl rfl rfl rfl ?_
  refine X_get f_X6_182 rfl (rc_B hρ hpo hP) rfl ?_
  obtain ⟨s1, s2⟩ := w_sgs hG hK hM (d := d) W B F co sg 2 0 0 p0 l hρ hX hlb hF hFa hFe hsg (by omega)
  have step : ∀ (N9 : XH) (r9 : Option Value), (x_QS (fun B => cset (rset B ρ i er ea sv nm ty hv) J bf K tk ts tl tv su D) B ρ sg 2 0 p0 l) N9 r9 → x_W G mX6_readPrepare (x_Z G (d + 28) mc ms ad0 nb0 Qn x_noX) N9 (cells + l.length) (slots + y_gt 0 l.length) 136 [some (.ref (ρ 0)), some (.int st), some (.long z), none, some (.ref ht), some (.ref po)] (r9.toList ++ []) := by
    rintro N9 r9 ⟨B5, el5, m5, t1, t2, t3, t4, t5, rfl, rfl⟩
    refine X_stk (st' := []) rfl ?_
    have hP5 := t4 _ _ hpl.1 hpl.2 hP
    have hS5 := y_lb_kp2 hX.2 hS hlb t4 ⟨_, t1.2.1⟩ hne
    have hob : y_ob B5 po := ⟨4, _, _, _, _, hP5, rfl, List.mem_of_getElem? (i := 1489) (by decide +kernel)⟩
    refine X_ld rfl rfl rfl rfl ?_
    refine X_get f_X6_12 rfl (c_B (t2.o 0 (by decide)) rs_r) rfl ?_
    refine X_get f_X6_157 rfl (c_B (t2.o 1 (by decide)) (rs_st t2)) rfl ?_
    refine X_ld rfl rfl rfl rfl ?_
    refine X_vcallP (rc_B t2 hS5.1 hS5.2.1) l_X6_Jx4a65c_add_9ea2d (j_add hG hK hM d (y_none2 t2 t3.1) (y_lb.s t2 hS5) (y_ob_c t2 hpo hob) (by omega)) rfl rfl rfl rfl (Nat.le_of_ble_eq_true rfl) (Nat.le_of_ble_eq_true rfl) (by omega) (by omega) (by omega) (fun N9 r9 hq9 => ?_)
    obtain ⟨hA9, rfl⟩ := hq9
    obtain ⟨B6, elS6, rfl, b1, b2, b3, b4, b5, b6, -⟩ := y_addB t2 t3.1 t3.2 hS5 hpo hob hA9
    clear hA9
    refine X_stk (st' := .int 1 :: []) rfl ?_
    refine X_pop rfl rfl ?_
    exact X_vret rfl rfl (kk B5 B6 el5 elS6 m5 t1 t4 t5 b2 b3 b1 b4 b5 b6) (by omega) (by omega)
  rcases t_sg.two hsg with ⟨V9, h9, ho9⟩ | ⟨V9, h9, ho9⟩
  · have h9B := hF _ _ h9
    refine X_callU (o := co) lu_X6_X0_addSargable (s1 V9 h9B) rfl rfl (rc_B hρ ho9 h9B) rfl rfl (Nat.le_of_ble_eq_true rfl) (x_fit_of (Nat.le_of_ble_eq_true rfl) (by omega) (by omega) (by omega)) (fun N9 r9 h => ?_)
    exact step N9 r9 h
  · have h9B := hF _ _ h9
    refine X_callU (o := co) lu_X6_X1_addSargable (s2 V9 h9B) rfl rfl (rc_B hρ ho9 h9B) rfl rfl (Nat.le_of_ble_eq_true rfl) (x_fit_of (Nat.le_of_ble_eq_true rfl) (by omega) (by omega) (by omega)) (fun N9 r9 h => ?_)
    exact step N9 r9 h

