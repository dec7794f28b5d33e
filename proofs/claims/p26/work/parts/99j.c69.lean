/-! ===== the class's reader: one more statement stands ===== -/
theorem s_p4_o {rd : Nat → Int32} {s j : Nat} : ∀ n, (j < 275 + 30 * s + 17 ∨ 275 + 30 * s + 17 + n ≤ j) → s_p4 rd s n j = rd j
  | 0, _ => rfl
  | n + 1, h => by
    show upd (s_p4 rd s n) (275 + 30 * s + (17 + n)) (-1) j = rd j
    rw [updI_ne (by omega)]
    exact s_p4_o n (by omega)
theorem s_p4_at {rd : Nat → Int32} {s h : Nat} : ∀ n, h < n → s_p4 rd s n (275 + 30 * s + (17 + h)) = -1
  | 0, hh => absurd hh (Nat.not_lt_zero _)
  | n + 1, hh => by
    show upd (s_p4 rd s n) (275 + 30 * s + (17 + n)) (-1) (275 + 30 * s + (17 + h)) = -1
    by_cases e : h = n
    · rw [e, updI_eq]
    · rw [updI_ne (by omega)]
      exact s_p4_at n (by omega)
theorem s_p5_o {rd : Nat → Int32} {s j : Nat} : ∀ n, (j < 275 + 30 * s + 21 ∨ 275 + 30 * s + 21 + n ≤ j) → s_p5 rd s n j = rd j
  | 0, _ => rfl
  | n + 1, h => by
    show upd (s_p5 rd s n) (275 + 30 * s + (21 + n)) 100 j = rd j
    rw [updI_ne (by omega)]
    exact s_p5_o n (by omega)
theorem s_prep_o {rd : Nat → Int32} {s j : Nat} (h : j < 275 + 30 * s + 14 ∨ 275 + 30 * s + 27 ≤ j) : s_prep rd s j = rd j := by
  unfold s_prep
  rw [updI_ne (by omega), updI_ne (by omega), s_p5_o 5 (by omega), s_p4_o 4 (by omega)]
theorem s_prep_h {rd : Nat → Int32} {s h : Nat} (hh : h < 4) : s_prep rd s (275 + 30 * s + (17 + h)) = -1 := by
  unfold s_prep
  rw [updI_ne (by omega), updI_ne (by omega), s_p5_o 5 (by omega)]
  exact s_p4_at 4 hh
theorem s_prep_26 {rd : Nat → Int32} {s : Nat} : s_prep rd s (275 + 30 * s + 26) = rd 9 := updI_eq
theorem y_skS {B0 B : XH} {ρ : Nat → Nat} {hv rd tx : Nat → Int32} {s elS n p : Nat} {mS : Int32} {pS : Nat → Nat} (hST : y_ST B0 B ρ hv rd s elS mS pS) (hp : p ≤ n) (hn : l_nm tx n p) : s_sk rd tx 275 30 s (l_sk tx n p) (l_we tx n p) = s_first (fun j => decide (s_nmn rd (275 + 30 * j) 8 = s_nmv tx (l_sk tx n p) (l_we tx n p - l_sk tx n p))) s := by
  have hle := l_we_le (tx := tx) hp
  unfold s_sk
  refine s_first_cong s fun j hj => ?_
  obtain ⟨-, co, ht, sg, h, psg, l, E, -, ⟨L, h2⟩, -⟩ := hST.2.2.2 j hj
  exact y_eqn h2 hle.1 (by have := hn.2.1; omega) (z_wl hp)
theorem y_B1_rs {B : XH} {ρ : Nat → Nat} {i : Nat} {er ea : Int32} {sv ty hv : Nat → Int32} {nm : Nat → Int64} (hρ : y_ds ρ B) : y_le (y_B1 B ρ hv) (rset B ρ i er ea sv nm ty hv) := fun k c hk => by
  unfold y_B1 at hk
  by_cases e : k = ρ 4
  · rw [e, x_set_eq] at hk
    rw [e, rs_ht hρ]
    exact hk
  · rw [x_set_ne e] at hk
    exact rs_B hρ hk
theorem y_prep_ok {B0 B B3 B5 B6 : XH} {ρ ρ2 : Nat → Nat} {hv hv3 rd rd' rd3 : Nat → Int32} {s elS elS6 el5 po sg co v k kk : Nat} {mS m5 : Int32} {pS : Nat → Nat} {l : List Nat} {E : (Nat → Bool) → Bool} {z : Int64} (hρ : y_ds ρ B) (hX : B 0 = none ∧ B 2 = none) (hST : y_ST B0 B ρ hv rd s elS mS pS) (hρ2a : ∀ a, a ≠ 4 → ρ2 a = ρ a) (h24 : ρ2 4 = v) (hv1 : s_out v) (hv2 : B v = none) (hv3' : 64 ≤ v) (hv4 : ∀ a, a < 5 → ¬ v = ρ a) (hpo1 : s_out po) (hpo2 : y_B1 B ρ hv po = none) (hpo3 : 64 ≤ po) (hgw : y_gw (x_set (y_B1 B ρ hv) po (.inl (4, y_dfl tyX4))) B3 ρ2) (hsg1 : s_out sg) (hsg2 : B3 sg = none) (hsg3 : 64 ≤ sg) (hsg4 : ∀ a, a < 5 → ¬ sg = ρ2 a) (hsg5 : sg ≠ po) (htr : y_tr (y_dif (x_set (y_B1 B ρ hv) po (.inl (4, y_dfl tyX4))) B3) rd3 15 co k kk true E l) (hln : l.length ≤ 300)
    (f1 : y_le B0 B6) (f2 : y_ds ρ2 B6) (t1 : y_lb B5 sg m5 el5 (0 + l.length) (y_ap (fun _ => 0) 0 l)) (t2 : y_kp (x_set (x_set B3 sg (.inl (0, lV 0 2 0))) po (.inl (4, pV z co v sg))) B5 sg 2) (t3 : el5 = 2 ∨ (x_set (x_set B3 sg (.inl (0, lV 0 2 0))) po (.inl (4, pV z co v sg))) el5 = none) (u3 : y_lb B6 (ρ 5) (mS + 1) elS6 (s + 1) (updF pS s po)) (u4 : y_kp B5 B6 (ρ 5) elS) (u5 : elS6 = elS ∧ ¬ elS = 2 ∨ B5 elS6 = none)
    (hz : z = s_nmn rd' (275 + 30 * s) 8) (hok : ∃ L, y_nmok rd' (275 + 30 * s) L) (hh : ∀ j, j < 4 → hv3 j = rd' (275 + 30 * s + (17 + j))) (h26 : n_ (rd' (275 + 30 * s + 26)) = k) (h27 : n_ (rd' (275 + 30 * s + 27)) = kk) (h9 : n_ (rd' 9) = kk) (hk9 : n_ (rd 9) ≤ k) (hkk : k ≤ kk) (hcod : ∀ j, j < kk → ∀ x, x < 6 → s_cod rd3 j x = s_cod rd' j x) (h30 : rd3 0 = rd' 0) (h00 : rd' 0 = rd 0) (hold : ∀ t, t < s → ∀ x, x < 30 → rd' (275 + 30 * t + x) = rd (275 + 30 * t + x)) (hcod0 : ∀ j, j < k → ∀ x, x < 6 → s_cod rd j x = s_cod rd' j x) : y_ST B0 B6 ρ2 hv3 rd' (s + 1) elS6 (mS + 1) (updF pS s po) := by
  obtain ⟨q1, ⟨q2, q2b, q2c⟩, q3, q4⟩ := id hST
  have h5 : ρ2 5 = ρ 5 := hρ2a 5 (by decide)
  have hne4 : ¬ 2 = ρ 4 := by have := (hρ.2 4 (by decide)).2.2; omega
  have hkp := y_prep_kp hX.2 hne4 hpo2 rfl hgw.1 hsg2 t2 u4 u5
  have hBpo : B po = none := by
    unfold y_B1 at hpo2
    by_cases e : po = ρ 4
    · rw [e, x_set_eq] at hpo2; cases hpo2
    · rw [x_set_ne e] at hpo2; exact hpo2
  have hB4 : B (ρ 4) = none := (hρ.2 4 (by decide)).2.1
  have hle1 : y_le B (y_B1 B ρ hv) := y_le_set hB4
  have hle2 : y_le B (x_set (y_B1 B ρ hv) po (.inl (4, y_dfl tyX4))) := y_le.trans hle1 (y_le_set hpo2)
  have hle3 : y_le B B3 := hle2.trans hgw.1
  have h0B : y_le B0 (y_B1 B ρ hv) := q1.trans hle1
  have hv1B : y_B1 B ρ hv v = none := by unfold y_B1; rw [x_set_ne (hv4 4 (by decide))]; exact hv2
  have helS6 : B0 elS6 = none := by
    cases h : B0 elS6 with
    | none => rfl
    | some c => exact absurd rfl (hkp elS6 c (h0B _ _ h) (fun e => by rw [e, q2b] at h; cases h) (fun e => by rw [e, q2c] at h; cases h)).2
  have hel6 : ∃ c, B6 elS6 = some c := by
    rcases u3.2.2 with ⟨z1, -⟩ | ⟨cap, f, -, -, z3, -⟩
    · omega
    · exact ⟨_, z3⟩
  have hv6 : v ≠ elS6 := fun e => by
    obtain ⟨c, hc⟩ := hel6
    exact f2.nB hc 4 (by decide) (e.symm.trans h24.symm)
  have hS3 : B3 (ρ 5) = some (.inl (0, lV mS elS s)) := hle3 _ _ q3.2.1
  have hX4 : (x_set (x_set B3 sg (.inl (0, lV 0 2 0))) po (.inl (4, pV z co v sg))) 2 = none := by
    rw [x_set_ne (by omega), x_set_ne (by omega)]; exact hgw.2.2.2
  have hkeep : ∀ k c, k ≠ ρ 5 → k ≠ elS → (x_set (x_set B3 sg (.inl (0, lV 0 2 0))) po (.inl (4, pV z co v sg))) k = some c → k ≠ sg → B6 k = some c ∧ k ≠ elS6 := fun k c e5 ee hk es => by
    have h2 : k ≠ 2 := fun e => by rw [e, hX4] at hk; cases hk
    have hk5 := t2 _ _ es h2 hk
    refine ⟨u4 _ _ e5 ee hk5, fun e => ?_⟩
    rcases u5 with ⟨g, -⟩ | g
    · exact ee (e.trans g)
    · rw [e, g] at hk5; cases hk5
  have hels : ∀ k, B k = none → k ≠ 2 → k ≠ elS := fun k hk h2 e => by
    rcases q3.2.2 with ⟨-, g⟩ | ⟨cap, f, -, -, g, -⟩
    · exact h2 (e.trans g)
    · rw [← e, hk] at g; cases g
  have h5ne : ∀ k, B k = none → k ≠ ρ 5 := fun k hk e => by rw [e, q3.2.1] at hk; cases hk
  have hin : ∀ k c, k ≠ ρ 5 → k ≠ elS6 → B0 k = none → k ≠ v → B6 k = some c → y_fz B0 (y_B1 B6 ρ2 hv3) [ρ2 5, elS6] k = some c := fun k c e1 e2 e3 e4 hk => by
    rw [y_fz_at (by rw [h5]; simp only [List.mem_cons, List.not_mem_nil, or_false, not_or]; exact ⟨e1, e2⟩) e3]
    unfold y_B1
    rw [h24, x_set_ne e4]
    exact hk
  have hle4 : y_le B (x_set (x_set B3 sg (.inl (0, lV 0 2 0))) po (.inl (4, pV z co v sg))) := fun k c hk => by
    rw [x_set_ne (fun e => by rw [e, hBpo] at hk; cases hk), x_set_ne (fun e => by have := hle3 _ _ hk; rw [e, hsg2] at this; cases this)]
    exact hle3 _ _ hk
  have hBsg := y_le_no hle3 hsg2
  have hS5 : B5 (ρ 5) = some (.inl (0, lV mS elS s)) := t2 _ _ (fun e => by rw [e, hsg2] at hS3; cases hS3) (fun e => by rw [e, hgw.2.2.2] at hS3; cases hS3) (hle4 _ _ q3.2.1)
  have hpov : po ≠ v := fun e => hgw.2.1.nB (hgw.1 _ _ x_set_eq) 4 (by decide) (e.trans h24.symm)
  have hin2 : ∀ k c, B5 k = some c → k ≠ ρ 5 → k ≠ elS → B0 k = none → k ≠ v → y_fz B0 (y_B1 B6 ρ2 hv3) [ρ2 5, elS6] k = some c := fun k c hk e1 e2 e3 e4 => hin k c e1 (fun e => by
    rcases u5 with ⟨g, -⟩ | g
    · exact e2 (e.trans g)
    · rw [e, g] at hk; cases hk) e3 e4 (u4 _ _ e1 e2 hk)
  rw [Nat.zero_add] at t1
  refine ⟨f1, ⟨fun a ha => ?_, by rw [h5]; exact q2b, helS6⟩, by rw [h5]; exact u3, fun t ht => ?_⟩
  · by_cases e : a = 4
    · rw [e, h24]; exact y_le_no q1 hv2
    · rw [hρ2a a e]; exact q2 a ha
  · by_cases e : t = s
    · rw [e, show updF pS s po s = po from if_pos rfl]
      refine ⟨hpo1, co, v, sg, hv3, y_ap (fun _ => 0) 0 l, l, E, ?_, hok, ⟨hv1, ?_, hh⟩, ⟨⟨hsg1, by omega, m5, el5, ?_, fun h0 => ?_⟩, fun j hj => ?_⟩, ?_, by rw [h27, h9]; exact Nat.le_refl _⟩
      · obtain ⟨g1, g2⟩ := hkeep po _ (h5ne po hBpo) (hels po hBpo (by omega)) x_set_eq (Ne.symm hsg5)
        rw [← hz]
        exact hin po _ (h5ne po hBpo) g2 (y_le_no h0B hpo2) hpov g1
      · rw [y_fz_at (by rw [h5]; simp only [List.mem_cons, List.not_mem_nil, or_false, not_or]; exact ⟨h5ne v hv2, hv6⟩) (y_le_no q1 hv2)]
        unfold y_B1
        rw [h24, x_set_eq]
      · exact hin2 sg _ t1.2.1 (h5ne sg hBsg) (hels sg hBsg (by omega)) (y_le_no q1 hBsg) (fun e => hsg4 4 (by decide) (e.trans h24.symm))
      · rcases t1.2.2 with ⟨z1, -⟩ | ⟨cap, f, g1, g2, g3, g4, g5⟩
        · omega
        · have hn4 := t3.resolve_left (by omega)
          have hBe := y_le_no hle4 hn4
          have he5 : el5 ≠ ρ 5 := h5ne el5 hBe
          have heS : el5 ≠ elS := hels el5 hBe (by omega)
          exact ⟨g1, true, cap, f, hin2 el5 _ g3 he5 heS (y_le_no q1 hBe) (fun e => f2.nB (u4 _ _ he5 heS g3) 4 (by decide) (e.trans h24.symm)), ⟨by omega, by omega⟩, fun j hj => (g5 j hj).1⟩
      · unfold y_ap
        rw [if_neg (Nat.not_lt_zero _), Nat.sub_zero]
      · rw [h26, h27]
        refine y_tr_cong htr (fun j c hk => ?_) hcod (by unfold s_cm; rw [h30])
        have hn := y_dif_new hk
        have hc := y_dif_le _ _ hk
        have hBj := y_le_no hle2 hn
        have hjs : j ≠ sg := fun e => by rw [e, hsg2] at hc; cases hc
        have hjp : j ≠ po := fun e => by rw [e, x_set_eq] at hn; cases hn
        have hj2 : j ≠ 2 := fun e => by rw [e, hgw.2.2.2] at hc; cases hc
        obtain ⟨g1, g2⟩ := hkeep j c (h5ne j hBj) (hels j hBj hj2) (by rw [x_set_ne hjp, x_set_ne hjs]; exact hc) hjs
        exact hin j c (h5ne j hBj) g2 (y_le_no q1 hBj) (fun e => hgw.2.1.nB hc 4 (by decide) (e.trans h24.symm)) g1
    · rw [show updF pS s po t = pS t from if_neg e]
      refine (q4 t (by omega)).mono (fun j c hk => ?_) (hold t (by omega)) (fun j hj x hx => hcod0 j (by omega) x hx) h00 (by omega)
      unfold y_fz at hk
      by_cases eh : j ∈ [ρ 5, elS]
      · rw [if_pos eh] at hk; cases hk
      · rw [if_neg eh] at hk
        simp only [List.mem_cons, List.not_mem_nil, or_false, not_or] at eh
        have hk1 := y_dif_le _ _ hk
        obtain ⟨g1, g2⟩ := hkp j c hk1 eh.1 eh.2
        exact hin j c eh.1 g2 (y_dif_new hk) (fun e => by rw [e, hv1B] at hk1; cases hk1) g1

