/-! ===== the class's reader: a statement, its end ===== -/
theorem w_prE {G : XE} (hG : x_Kn G) (hK : x_KS G) (hM : x_KM G) {J bf tk ts : Nat → Int32} {tv : Nat → Int64} {su : Nat → Nat} {D : Nat → Nat → Int32} {ρ : Nat → Nat} {i : Nat} {sv ty : Nat → Int32} {nm : Nat → Int64} (d : Nat) {B0 B B3 : XH} {K hv hv6 rd : Nat → Int32} {tl : Int64} {ρ2 : Nat → Nat} {er ea : Int32} {s elS po co ht sg W : Nat} {mS st : Int32} {pS : Nat → Nat} {z : Int64} {l : List Nat} (hρ : y_ds ρ B) (hX : B 0 = none ∧ B 2 = none) (hST : y_ST B0 B ρ hv rd s elS mS pS) (hρ2a : ∀ a, a ≠ 4 → ρ2 a = ρ a) (hpo1 : s_out po) (hpo2 : y_B1 B ρ hv po = none) (hpo3 : 64 ≤ po) (hgw : y_gw (x_set (y_B1 B ρ hv) po (.inl (4, y_dfl tyX4))) B3 ρ2) (hsg1 : s_out sg) (hsg2 : B3 sg = none) (hsg3 : 64 ≤ sg) (hsg4 : ∀ a, a < 5 → ¬ sg = ρ2 a) (hsg5 : sg ≠ po) (hsgt : t_sg (y_dif (x_set (y_B1 B ρ hv) po (.inl (4, y_dfl tyX4))) B3) W co l) (hW : W ≤ 15) (hln : l.length ≤ 300) (hs7 : s ≤ 7) (her : er = 0) {mc ms nb0 cells slots : Nat} {ad0 : Nat → Nat} {Qn : XH → Option Value → Prop} (hc : cells + l.length + 1 ≤ mc) (hs : slots + y_gt 0 l.length + y_gs s ≤ ms) (kk : ∀ (B5 B6 : XH) (el5 elS6 : Nat) (m5 : Int32), y_le B0 B6 → y_ds ρ2 B6 → (B6 0 = none ∧ B6 2 = none) → y_lb B5 sg m5 el5 (0 + l.length) (y_ap (fun _ => 0) 0 l) → y_kp (x_set (x_set B3 sg (.inl (0, lV 0 2 0))) po (.inl (4, pV z co ht sg))) B5 sg 2 → (el5 = 2 ∨ (x_set (x_set B3 sg (.inl (0, lV 0 2 0))) po (.inl (4, pV z co ht sg))) el5 = none) → y_lb B6 (ρ 5) (mS + 1) elS6 (s + 1) (updF pS s po) → y_kp B5 B6 (ρ 5) elS → (elS6 = elS ∧ ¬ elS = 2 ∨ B5 elS6 = none) → 64 ≤ elS6 → Qn (cset (rset B6 ρ2 i er ea sv nm ty hv6) J bf K tk ts tl tv su D) none) : x_W G mX6_readPrepare (x_Z G (d + 28) mc ms ad0 nb0 Qn x_noX) (cset (rset (x_set (x_set B3 sg (.inl (0, lV 0 2 0))) po (.inl (4, pV z co ht sg))) ρ2 i er ea sv nm ty hv6) J bf K tk ts tl tv su D) cells slots 116 [some (.ref (ρ2 0)), some (.int st), some (.long z), none, some (.ref ht), some (.ref po)] [] := by
  obtain ⟨q1, q2, q3, q4⟩ := id hST
  have h5 : ρ2 5 = ρ 5 := hρ2a 5 (by decide)
  have hB4 : B (ρ 4) = none := (hρ.2 4 (by decide)).2.1
  have hBpo : B po = none := by
    unfold y_B1 at hpo2
    by_cases e : po = ρ 4
    · rw [e, x_set_eq] at hpo2; cases hpo2
    · rw [x_set_ne e] at hpo2; exact hpo2
  have hle1 : y_le B (y_B1 B ρ hv) := y_le_set hB4
  have hle2 : y_le B (x_set (y_B1 B ρ hv) po (.inl (4, y_dfl tyX4))) := y_le.trans hle1 (y_le_set hpo2)
  have hle3 : y_le B B3 := hle2.trans hgw.1
  have hle4 : y_le B (x_set (x_set B3 sg (.inl (0, lV 0 2 0))) po (.inl (4, pV z co ht sg))) := fun k c hk => by
    rw [x_set_ne (fun e => by rw [e, hBpo] at hk; cases hk), x_set_ne (fun e => by have := hle3 _ _ hk; rw [e, hsg2] at this; cases this)]
    exact hle3 _ _ hk
  have hF : y_le (y_dif (x_set (y_B1 B ρ hv) po (.inl (4, y_dfl tyX4))) B3) (x_set (x_set B3 sg (.inl (0, lV 0 2 0))) po (.inl (4, pV z co ht sg))) := fun k c hk => by
    have hn := y_dif_new hk
    have hc := y_dif_le _ _ hk
    rw [x_set_ne (fun e => by rw [e, x_set_eq] at hn; cases hn), x_set_ne (fun e => by rw [e, hsg2] at hc; cases hc)]
    exact hc
  have hFa : ∀ k, B3 k = none → (y_dif (x_set (y_B1 B ρ hv) po (.inl (4, y_dfl tyX4))) B3) k = none := fun k hk => by
    cases h : (y_dif (x_set (y_B1 B ρ hv) po (.inl (4, y_dfl tyX4))) B3) k with
    | none => rfl
    | some c => have := y_dif_le _ _ h; rw [hk] at this; cases this
  have hX4 : (x_set (x_set B3 sg (.inl (0, lV 0 2 0))) po (.inl (4, pV z co ht sg))) 0 = none ∧ (x_set (x_set B3 sg (.inl (0, lV 0 2 0))) po (.inl (4, pV z co ht sg))) 2 = none := ⟨by rw [x_set_ne (by omega), x_set_ne (by omega)]; exact hgw.2.2.1, by rw [x_set_ne (by omega), x_set_ne (by omega)]; exact hgw.2.2.2⟩
  have hds4 : y_ds ρ2 (x_set (x_set B3 sg (.inl (0, lV 0 2 0))) po (.inl (4, pV z co ht sg))) := (hgw.2.1.set hsg4).set (hgw.2.1.nB (hgw.1 _ _ x_set_eq))
  refine w_pr116 hG hK hM hds4 d (F := y_dif (x_set (y_B1 B ρ hv) po (.inl (4, y_dfl tyX4))) B3) (p0 := fun _ => 0) (elS := elS) (s := s) (mS := mS) (pS := pS) hX4 hpo1 x_set_eq ⟨hsg1, (x_set_ne hsg5).trans x_set_eq, Or.inl ⟨rfl, rfl⟩⟩ hF (hFa sg hsg2) (hFa 2 hgw.2.2.2) hsgt hW hln (by rw [h5]; exact y_lb_le hle4 q3) hs7 (fun e => by have := hle3 _ _ q3.2.1; rw [← h5, e, hsg2] at this; cases this) her hc hs (fun B5 B6 el5 elS6 m5 t1 t2 t3 u1 u2 u3 u4 u5 u6 => ?_)
  rw [h5] at u3 u4
  have hkp := y_prep_kp hX.2 (by have := (hρ.2 4 (by decide)).2.2; omega) hpo2 rfl hgw.1 hsg2 t2 u4 u5
  exact kk B5 B6 el5 elS6 m5 (y_prep_le hST hkp) u1 u2 t1 t2 t3 u3 u4 u5 u6
theorem w_prEX {G : XE} (hG : x_Kn G) (hK : x_KS G) (hM : x_KM G) {J bf tk ts : Nat → Int32} {tv : Nat → Int64} {su : Nat → Nat} {D : Nat → Nat → Int32} {ρ : Nat → Nat} {i : Nat} {sv ty : Nat → Int32} {nm : Nat → Int64} (d : Nat) {B0 B B3 : XH} {K hv hv6 rd : Nat → Int32} {tl : Int64} {ρ2 : Nat → Nat} {er ea : Int32} {s elS po co ht sg : Nat} {mS st : Int32} {pS : Nat → Nat} {z : Int64} (hρ : y_ds ρ B) (hST : y_ST B0 B ρ hv rd s elS mS pS) (hpo2 : y_B1 B ρ hv po = none) (hpo3 : 64 ≤ po) (hgw : y_gw (x_set (y_B1 B ρ hv) po (.inl (4, y_dfl tyX4))) B3 ρ2) (hsg2 : B3 sg = none) (hsg3 : 64 ≤ sg) (hsg4 : ∀ a, a < 5 → ¬ sg = ρ2 a) (her : ¬ er = 0) {mc ms nb0 cells slots : Nat} {ad0 : Nat → Nat} {Qn : XH → Option Value → Prop} (hc : cells ≤ mc) (hs : slots ≤ ms) (kk : y_le B0 (x_set (x_set B3 sg (.inl (0, lV 0 2 0))) po (.inl (4, pV z co ht sg))) → y_ds ρ2 (x_set (x_set B3 sg (.inl (0, lV 0 2 0))) po (.inl (4, pV z co ht sg))) → ((x_set (x_set B3 sg (.inl (0, lV 0 2 0))) po (.inl (4, pV z co ht sg))) 0 = none ∧ (x_set (x_set B3 sg (.inl (0, lV 0 2 0))) po (.inl (4, pV z co ht sg))) 2 = none) → Qn (cset (rset (x_set (x_set B3 sg (.inl (0, lV 0 2 0))) po (.inl (4, pV z co ht sg))) ρ2 i er ea sv nm ty hv6) J bf K tk ts tl tv su D) none) : x_W G mX6_readPrepare (x_Z G (d + 28) mc ms ad0 nb0 Qn x_noX) (cset (rset (x_set (x_set B3 sg (.inl (0, lV 0 2 0))) po (.inl (4, pV z co ht sg))) ρ2 i er ea sv nm ty hv6) J bf K tk ts tl tv su D) cells slots 116 [some (.ref (ρ2 0)), some (.int st), some (.long z), none, some (.ref ht), some (.ref po)] [] := by
  obtain ⟨q1, q2, q3, q4⟩ := id hST
  have hB4 : B (ρ 4) = none := (hρ.2 4 (by decide)).2.1
  have hBpo : B po = none := by
    unfold y_B1 at hpo2
    by_cases e : po = ρ 4
    · rw [e, x_set_eq] at hpo2; cases hpo2
    · rw [x_set_ne e] at hpo2; exact hpo2
  have hle1 : y_le B (y_B1 B ρ hv) := y_le_set hB4
  have hle2 : y_le B (x_set (y_B1 B ρ hv) po (.inl (4, y_dfl tyX4))) := y_le.trans hle1 (y_le_set hpo2)
  have hle3 : y_le B B3 := hle2.trans hgw.1
  have hle4 : y_le B (x_set (x_set B3 sg (.inl (0, lV 0 2 0))) po (.inl (4, pV z co ht sg))) := fun k c hk => by
    rw [x_set_ne (fun e => by rw [e, hBpo] at hk; cases hk), x_set_ne (fun e => by have := hle3 _ _ hk; rw [e, hsg2] at this; cases this)]
    exact hle3 _ _ hk
  have hX4 : (x_set (x_set B3 sg (.inl (0, lV 0 2 0))) po (.inl (4, pV z co ht sg))) 0 = none ∧ (x_set (x_set B3 sg (.inl (0, lV 0 2 0))) po (.inl (4, pV z co ht sg))) 2 = none := ⟨by rw [x_set_ne (by omega), x_set_ne (by omega)]; exact hgw.2.2.1, by rw [x_set_ne (by omega), x_set_ne (by omega)]; exact hgw.2.2.2⟩
  have hds4 : y_ds ρ2 (x_set (x_set B3 sg (.inl (0, lV 0 2 0))) po (.inl (4, pV z co ht sg))) := (hgw.2.1.set hsg4).set (hgw.2.1.nB (hgw.1 _ _ x_set_eq))
  refine X_ld rfl rfl rfl rfl ?_
  refine X_get f_X6_98 rfl (c_B (hds4.o 0 (by decide)) rs_r) (v := .int er) rfl ?_
  refine X_if_ne rfl (fun _ => ?_) (fun c98 => absurd c98 her)
  exact X_vret rfl rfl (kk (y_le.trans q1 hle4) hds4 hX4) hc hs
theorem y_X2 {B : XH} {ρ : Nat → Nat} {hv : Nat → Int32} {po : Nat} {c : XC} (hρ : y_ds ρ B) (hX : B 0 = none ∧ B 2 = none) (h64 : 64 ≤ po) : (x_set (y_B1 B ρ hv) po c) 0 = none ∧ (x_set (y_B1 B ρ hv) po c) 2 = none := by
  have h4 := (hρ.2 4 (by decide)).2.2
  unfold y_B1
  exact ⟨by rw [x_set_ne (by omega), x_set_ne (by omega)]; exact hX.1, by rw [x_set_ne (by omega), x_set_ne (by omega)]; exact hX.2⟩
theorem w_prX66 {G : XE} (hG : x_Kn G) (hK : x_KS G) (hM : x_KM G) {B : XH} {J bf K tk ts : Nat → Int32} {tl : Int64} {tv : Nat → Int64} {su : Nat → Nat} {D : Nat → Nat → Int32} {ρ : Nat → Nat} (hρ : y_ds ρ B) {i : Nat} {er ea : Int32} {sv ty hv : Nat → Int32} {nm : Nat → Int64} (d : Nat) {B0 : XH} {rd : Nat → Int32} {m s elS : Nat} {mS st : Int32} {pS : Nat → Nat} {z : Int64} (hX : B 0 = none ∧ B 2 = none) (hST : y_ST B0 B ρ hv rd s elS mS pS) (her : ¬ er = 0) (hek : z_er K) (hcol : y_col rd sv ty nm m) (hs6 : s ≤ 6) {mc ms nb0 cells slots : Nat} {ad0 : Nat → Nat} {Qn : XH → Option Value → Prop} (hc : cells + 12 ≤ mc) (hs : slots + 100 ≤ ms) (kk : ∀ (hv2 : Nat → Int32) (B6 : XH) (ρ2 : Nat → Nat), y_le B0 B6 → y_ds ρ2 B6 → (B6 0 = none ∧ B6 2 = none) → (∀ a, a ≠ 4 → ρ2 a = ρ a) → Qn (cset (rset B6 ρ2 i er ea sv nm ty hv2) J bf K tk ts tl tv su D) none) : x_W G mX6_readPrepare (x_Z G (d + 28) mc ms ad0 nb0 Qn x_noX) (cset (rset B ρ i er ea sv nm ty hv) J bf K tk ts tl tv su D) cells slots 66 [some (.ref (ρ 0)), some (.int st), some (.long z), none, none, none] [] := by
  have hyg : y_gs s ≤ 10 := by
    unfold y_gs
    by_cases e : s = 0
    · rw [if_pos e]; omega
    · rw [if_neg e]; omega
  refine w_pr66 hG hK hρ d hX (by omega) (by omega) (fun v po ρ2 ea2 e42 hvf hpf hds2 => ?_)
  have hX2 : (x_set (y_B1 B ρ hv) po (.inl (4, y_dfl tyX4))) 0 = none ∧ (x_set (y_B1 B ρ hv) po (.inl (4, y_dfl tyX4))) 2 = none := y_X2 hρ hX hpf.2.2.1
  refine X_vcallP (c_B (hds2.o 0 (by decide)) rs_r) l_X6_X6_readCondition (p_readConditionX hG hK hM hds2 d her hek hcol hX2 (h := 0)) rfl rfl rfl rfl (Nat.le_of_ble_eq_true rfl) (Nat.le_of_ble_eq_true rfl) (by omega) (by omega) (by omega) (fun N1 r9 hq9 => ?_)
  obtain ⟨B3, co, l, hgw, hsg, hlen, rfl, rfl⟩ := hq9
  refine X_stk (st' := [.ref co, .long z, .ref po, .ref po]) rfl ?_
  refine w_pr103 hG hK hM hgw.2.1 d hgw.2.2 hpf.1 (hgw.1 _ _ x_set_eq) (by omega) (by omega) (fun sg s1 s2 s3 s4 s5 => ?_)
  have hds4 : y_ds ρ2 (x_set (x_set B3 sg (.inl (0, lV 0 2 0))) po (.inl (4, pV z co v sg))) := (hgw.2.1.set s4).set (hgw.2.1.nB (hgw.1 _ _ x_set_eq))
  refine X_ld rfl rfl rfl rfl ?_
  refine X_push (v := .int 59) rfl (by decide +kernel) ?_
  refine X_vcallv (c_B (hds4.o 0 (by decide)) rs_r) l_X6_X6_expectByte (p_expectByteX hG hK hds4 d her hek (s := 59) (by decide)) rfl rfl rfl rfl (Nat.le_of_ble_eq_true rfl) (Nat.le_of_ble_eq_true rfl) (by omega) (by omega) (by omega) ?_
  have hgt := y_gt_le l.length
  have hl1 : l.length ≤ 1 := by omega
  have hll : l.length * l.length ≤ 1 * 1 := Nat.mul_le_mul hl1 hl1
  exact w_prEX hG hK hM d hρ hST hpf.2.1 hpf.2.2.1 hgw s2 s3 s4 her (by omega) (by omega) (fun f1 f2 f3 => kk y_hv0 _ ρ2 f1 f2 f3 ea2)

