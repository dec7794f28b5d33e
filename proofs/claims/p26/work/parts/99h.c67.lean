/-! ===== the class's reader: the statements so far ===== -/
theorem y_tr_cong {F F' : XH} {c c' : Nat → Int32} {W v f g : Nat} {z : Bool} {E : (Nat → Bool) → Bool} {l : List Nat} (h : y_tr F c W v f g z E l) (hF : y_le F F') (hc : ∀ k, k < g → ∀ x, x < 6 → s_cod c k x = s_cod c' k x) (hm : s_cm c = s_cm c') : y_tr F' c' W v f g z E l := by
  obtain ⟨t1, t2, t3, t4, t5⟩ := h
  exact ⟨y_ta.mono hF (Nat.le_refl _) (fun k hk x _ hx => hc k hk x (by omega)) hm _ _ _ _ (Nat.le_refl _) t1, t_sg.mono hF _ _ _ _ (Nat.le_refl _) t2, z_seg_cong t3 (fun k _ hk => hc k hk 0 (by decide)), fun k a b d => s_cmpok_cong (fun x _ hx => hc k b x (by omega)) hm (t4 k a b (by rw [hc k b 0 (by decide)]; exact d)), y_fl_le t5 hF (fun k _ b x hx => hc k b x hx)⟩
/-- statement t of the reader's row is prepared at po -/
def y_P (F : XH) (rd : Nat → Int32) (t po : Nat) : Prop := s_out po ∧ ∃ (co ht sg : Nat) (h : Nat → Int32) (psg : Nat → Nat) (l : List Nat) (E : (Nat → Bool) → Bool), F po = some (.inl (4, pV (s_nmn rd (275 + 30 * t) 8) co ht sg)) ∧ (∃ L, y_nmok rd (275 + 30 * t) L) ∧ (s_out ht ∧ F ht = some (.inr (true, .int, 4, fun j => .int (h j))) ∧ ∀ j, j < 4 → h j = rd (275 + 30 * t + (17 + j))) ∧ (l_at F sg l.length psg ∧ ∀ j, j < l.length → psg j = (l[j]?).getD 0) ∧ y_tr F rd 15 co (n_ (rd (275 + 30 * t + 26))) (n_ (rd (275 + 30 * t + 27))) true E l ∧ n_ (rd (275 + 30 * t + 27)) ≤ n_ (rd 9)
theorem y_P.mono {F F' : XH} {rd rd' : Nat → Int32} {t po : Nat} (h : y_P F rd t po) (hF : y_le F F') (hst : ∀ x, x < 30 → rd' (275 + 30 * t + x) = rd (275 + 30 * t + x)) (hc : ∀ k, k < n_ (rd 9) → ∀ x, x < 6 → s_cod rd k x = s_cod rd' k x) (h0 : rd' 0 = rd 0) (h9 : n_ (rd 9) ≤ n_ (rd' 9)) : y_P F' rd' t po := by
  obtain ⟨a, co, ht, sg, h, psg, l, E, b1, ⟨L, b2⟩, ⟨b3, b4, b5⟩, ⟨b6, b7⟩, b8, b9⟩ := h
  have e26 := hst 26 (by decide)
  have e27 := hst 27 (by decide)
  have hL := b2.1
  refine ⟨a, co, ht, sg, h, psg, l, E, ?_, ⟨L, b2.1, fun k hk => ?_, fun k x y => ?_⟩, ⟨b3, hF _ _ b4, fun j hj => (b5 j hj).trans (hst (17 + j) (by omega)).symm⟩, ⟨y_le.l hF b6, b7⟩, ?_, by rw [e27]; omega⟩
  · rw [s_nmn_cong (e' := rd) 8 (fun k hk => hst k (by omega))]
    exact hF _ _ b1
  · rw [hst k (by omega)]; exact b2.2.1 k hk
  · rw [hst k (by omega)]; exact b2.2.2 k x y
  · rw [e26, e27]
    exact y_tr_cong b8 hF (fun k hk x hx => hc k (by omega) x hx) (by unfold s_cm; rw [h0])
/-- the cells beside, and the statements so far -/
def y_ST (B0 B : XH) (ρ : Nat → Nat) (hv rd : Nat → Int32) (s elS : Nat) (mS : Int32) (pS : Nat → Nat) : Prop :=
  y_le B0 B ∧ ((∀ a, a < 5 → B0 (ρ a) = none) ∧ B0 (ρ 5) = none ∧ B0 elS = none) ∧ y_lb B (ρ 5) mS elS s pS ∧ ∀ t, t < s → y_P (y_fz B0 (y_B1 B ρ hv) [ρ 5, elS]) rd t (pS t)
section PREP
variable {B0 B B2 B3 B5 B6 : XH} {ρ ρ2 : Nat → Nat} {hv hv6 rd rd' rd3 : Nat → Int32} {s elS elS6 el5 po sg co v k kk m : Nat} {mS m5 : Int32} {pS p0 : Nat → Nat} {l : List Nat} {E : (Nat → Bool) → Bool} {z : Int64}
/-- what stays -/
theorem y_prep_kp (hX : B 2 = none) (hρ4 : ¬ 2 = ρ 4) (hpo : y_B1 B ρ hv po = none) (hB2 : B2 = x_set (y_B1 B ρ hv) po (.inl (4, y_dfl tyX4))) (hgw : y_le B2 B3) (hsg : B3 sg = none) {P : XC} (t2 : y_kp (x_set (x_set B3 sg (.inl (0, lV 0 2 0))) po P) B5 sg 2) (u4 : y_kp B5 B6 (ρ 5) elS) (u5 : elS6 = elS ∧ ¬ elS = 2 ∨ B5 elS6 = none) : ∀ k c, y_B1 B ρ hv k = some c → k ≠ ρ 5 → k ≠ elS → B6 k = some c ∧ k ≠ elS6 := by
  intro k c hk h5 he
  have hkp : k ≠ po := fun e => by rw [e, hpo] at hk; cases hk
  have h2 : k ≠ 2 := fun e => by rw [e] at hk; unfold y_B1 at hk; rw [x_set_ne hρ4, hX] at hk; cases hk
  have h3 : B3 k = some c := hgw _ _ (by rw [hB2, x_set_ne hkp]; exact hk)
  have hks : k ≠ sg := fun e => by rw [e, hsg] at h3; cases h3
  have h5' : B5 k = some c := t2 _ _ hks h2 (by rw [x_set_ne hkp, x_set_ne hks]; exact h3)
  refine ⟨u4 _ _ h5 he h5', fun e => ?_⟩
  rcases u5 with ⟨g, -⟩ | g
  · exact he (e.trans g)
  · rw [e, g] at h5'; cases h5'
theorem y_prep_le (hST : y_ST B0 B ρ hv rd s elS mS pS) (hk : ∀ k c, y_B1 B ρ hv k = some c → k ≠ ρ 5 → k ≠ elS → B6 k = some c ∧ k ≠ elS6) : y_le B0 B6 := fun k c h => by
  obtain ⟨h1, ⟨h2, h3, h4⟩, -⟩ := hST
  refine (hk k c ?_ (fun e => by rw [e, h3] at h; cases h) (fun e => by rw [e, h4] at h; cases h)).1
  unfold y_B1
  rw [x_set_ne (fun e => by rw [e, h2 4 (by decide)] at h; cases h)]
  exact h1 _ _ h
end PREP
theorem w_pr103 {G : XE} (hG : x_Kn G) (hK : x_KS G) (hM : x_KM G) {B : XH} {J bf K tk ts : Nat → Int32} {tl : Int64} {tv : Nat → Int64} {su : Nat → Nat} {D : Nat → Nat → Int32} {ρ : Nat → Nat} (hρ : y_ds ρ B) {i : Nat} {er ea : Int32} {sv ty hv : Nat → Int32} {nm : Nat → Int64} (d : Nat) {po co ht : Nat} {st : Int32} {z : Int64} (hX : B 0 = none ∧ B 2 = none) (hpo : s_out po) (hP : B po = some (.inl (4, y_dfl tyX4))) {mc ms nb0 cells slots : Nat} {ad0 : Nat → Nat} {Qn : XH → Option Value → Prop} (hc : cells + 1 ≤ mc) (hs : slots + 3 ≤ ms) (kk : ∀ sg, s_out sg → B sg = none → 64 ≤ sg → (∀ a, a < 5 → ¬ sg = ρ a) → sg ≠ po → x_W G mX6_readPrepare (x_Z G (d + 28) mc ms ad0 nb0 Qn x_noX) (cset (rset (x_set (x_set B sg (.inl (0, lV 0 2 0))) po (.inl (4, pV z co ht sg))) ρ i er ea sv nm ty hv) J bf K tk ts tl tv su D) (cells + 1) (slots + 3) 110 [some (.ref (ρ 0)), some (.int st), some (.long z), none, some (.ref ht), some (.ref po)] []) : x_W G mX6_readPrepare (x_Z G (d + 28) mc ms ad0 nb0 Qn x_noX) (cset (rset B ρ i er ea sv nm ty hv) J bf K tk ts tl tv su D) cells slots 103 [some (.ref (ρ 0)), some (.int st), some (.long z), none, some (.ref ht), none] [.ref co, .long z, .ref po, .ref po] := by
  refine X_ld rfl rfl rfl rfl ?_
  refine X_icallP l_X6_X4_init (p_X4init hG hK hM d (y_none2 hρ hX.1) (rc_B hρ hpo hP)) rfl rfl rfl (Nat.le_of_ble_eq_true rfl) (Nat.le_of_ble_eq_true rfl) (by omega) (by omega) (by omega) (fun N1 r9 hq8 => ?_)
  obtain ⟨sg, hsg, h64, rfl, rfl⟩ := hq8
  obtain ⟨g1, g2, g3, g4⟩ := rc_new hsg
  have hne : sg ≠ po := fun e => by rw [e, hP] at g2; cases g2
  refine X_heap (N' := cset (rset (x_set (x_set B sg (.inl (0, lV 0 2 0))) po (.inl (4, pV z co ht sg))) ρ i er ea sv nm ty hv) J bf K tk ts tl tv su D) (by rw [g4, rc_set (hρ.set g3) hpo ((x_set_ne (Ne.symm hne)).trans hP)]) ?_
  refine X_stk (st' := [.ref po]) rfl ?_
  refine X_st rfl rfl rfl ?_
  exact kk sg g1 g2 h64 g3 hne

