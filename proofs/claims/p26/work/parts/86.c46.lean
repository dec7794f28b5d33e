/-! ===== the class's reader: columns, types, signs, holes ===== -/
/-- a name of 1 to 8 letters stands at at_ -/
def y_nmok (e : Nat → Int32) (at_ L : Nat) : Prop := (1 ≤ L ∧ L ≤ 8) ∧ (∀ k, k < L → s_let (e (at_ + k))) ∧ ∀ k, L ≤ k → k < 8 → e (at_ + k) = 0
theorem y_let0 {x : Int32} (h : s_let x) : ¬ x = 0 := fun e => by rw [e] at h; exact absurd h.1 (by decide)
theorem y_nmn {e : Nat → Int32} {at_ L : Nat} (h : y_nmok e at_ L) : s_nmn e at_ 8 = s_nmv e at_ L := by
  have h1 : ∀ n, n ≤ L → s_nmn e at_ n = s_nmv e at_ n := fun n => by
    induction n with
    | zero => intro _; rfl
    | succ n ih =>
      intro hn
      show (if e (at_ + n) = 0 then s_nmn e at_ n else 32 * s_nmn e at_ n + (e (at_ + n)).toInt64 - 97 + 1) = 32 * s_nmv e at_ n + (e (at_ + n)).toInt64 - 97 + 1
      rw [if_neg (y_let0 (h.2.1 n (by omega))), ih (by omega)]
  have h2 : ∀ n, L ≤ n → n ≤ 8 → s_nmn e at_ n = s_nmv e at_ L := fun n => by
    induction n with
    | zero => intro hn _; have := h.1.1; omega
    | succ n ih =>
      intro hn hn8
      by_cases e1 : L = n + 1
      · rw [e1]; exact h1 (n + 1) (by omega)
      · show (if e (at_ + n) = 0 then s_nmn e at_ n else 32 * s_nmn e at_ n + (e (at_ + n)).toInt64 - 97 + 1) = s_nmv e at_ L
        rw [if_pos (h.2.2 n (by omega) (by omega)), ih (by omega) (by omega)]
  exact h2 8 h.1.2 (Nat.le_refl _)
theorem s_eqn_iff {c tx : Nat → Int32} {at_ a e : Nat} : ∀ m, s_eqn c tx at_ a e m = true ↔ ∀ k, k < m → c (at_ + k) = s_ltr tx a e k
  | 0 => ⟨fun _ k hk => absurd hk (Nat.not_lt_zero _), fun _ => rfl⟩
  | m + 1 => by
    show (s_eqn c tx at_ a e m && decide (c (at_ + m) = s_ltr tx a e m)) = true ↔ _
    rw [Bool.and_eq_true, s_eqn_iff m, decide_eq_true_iff]
    constructor
    · rintro ⟨h1, h2⟩ k hk
      by_cases e : k = m
      · rw [e]; exact h2
      · exact h1 k (by omega)
    · intro h
      exact ⟨fun k hk => h k (by omega), h m (by omega)⟩
/-- names are compared letter by letter, or as numbers -/
theorem y_eqn {c tx : Nat → Int32} {at_ L a e : Nat} (h : y_nmok c at_ L) (hae : a ≤ e) (h8 : e - a ≤ 8) (hl : ∀ k, k < e - a → s_let (tx (a + k))) : s_eqn c tx at_ a e 8 = decide (s_nmn c at_ 8 = s_nmv tx a (e - a)) := by
  rw [y_nmn h]
  have key : s_eqn c tx at_ a e 8 = true ↔ s_nmv c at_ L = s_nmv tx a (e - a) := by
    rw [s_eqn_iff, y_nmv_inj h.1.2 h8 h.2.1 hl]
    unfold s_ltr
    constructor
    · intro g
      have hLe : L = e - a := by
        by_cases h1 : L < e - a
        · have h2 := g L (by omega)
          rw [if_pos (by omega), h.2.2 L (Nat.le_refl _) (by omega)] at h2
          exact absurd h2.symm (y_let0 (hl L h1))
        · by_cases h2 : e - a < L
          · have h3 := g (e - a) (by have := h.1.2; omega)
            rw [if_neg (by omega)] at h3
            exact absurd h3 (y_let0 (h.2.1 _ h2))
          · omega
      refine ⟨hLe, fun k hk => ?_⟩
      have h3 := g k (by have := h.1.2; omega)
      rwa [if_pos (by omega)] at h3
    · rintro ⟨g1, g2⟩ k hk
      by_cases h1 : k < L
      · rw [if_pos (by omega)]; exact g2 k h1
      · rw [if_neg (by omega)]; exact h.2.2 k (by omega) hk
  by_cases hd : s_nmv c at_ L = s_nmv tx a (e - a)
  · rw [decide_eq_true hd]; exact key.mpr hd
  · rw [decide_eq_false hd]
    cases hb : s_eqn c tx at_ a e 8 with
    | true => exact absurd (key.mp hb) hd
    | false => rfl
theorem s_first_cong {P Q : Nat → Bool} : ∀ m, (∀ j, j < m → P j = Q j) → s_first P m = s_first Q m
  | 0, _ => rfl
  | m + 1, h => by
    show (if s_first P m = -1 then (bif P m then nI m else -1) else s_first P m) = (if s_first Q m = -1 then (bif Q m then nI m else -1) else s_first Q m)
    rw [s_first_cong m (fun j hj => h j (by omega)), h m (by omega)]
/-- the Setup's first m columns are those of rd -/
def y_col (rd sv ty : Nat → Int32) (nm : Nat → Int64) (m : Nat) : Prop := m ≤ 5 ∧ sv 0 = nI m ∧ ∀ j, j < m → nm j = s_nmn rd (10 + 13 * j) 8 ∧ ty j = s_col rd j 8 ∧ (∃ L, y_nmok rd (10 + 13 * j) L) ∧ (s_col rd j 8 = 0 ∨ s_col rd j 8 = 1 ∨ s_col rd j 8 = 2)
theorem y_col0 {rd sv ty : Nat → Int32} {nm : Nat → Int64} {m : Nat} (h : y_col rd sv ty nm m) : ∀ j, j < m → decide (nm j = 0) = false := fun j hj => by
  obtain ⟨h1, -, ⟨L, h2⟩, -⟩ := h.2.2 j hj
  refine decide_eq_false ?_
  rw [h1, y_nmn h2]
  exact y_nmv_0 h2.1.2 h2.1.1 h2.2.1
theorem y_sk {rd sv ty tx : Nat → Int32} {nm : Nat → Int64} {m n p : Nat} (h : y_col rd sv ty nm m) (hp : p ≤ n) (hn : l_nm tx n p) : s_sk rd tx 10 13 m (l_sk tx n p) (l_we tx n p) = s_first (fun j => decide (nm j = s_nmv tx (l_sk tx n p) (l_we tx n p - l_sk tx n p))) m := by
  have hle := l_we_le (tx := tx) hp
  unfold s_sk
  refine s_first_cong m fun j hj => ?_
  obtain ⟨h1, -, ⟨L, h2⟩, -⟩ := h.2.2 j hj
  rw [h1]
  exact y_eqn h2 hle.1 (by have := hn.2.1; omega) (z_wl hp)
theorem p_takeColumn {G : XE} (hG : x_Kn G) (hK : x_KS G) {B : XH} {J bf K tk ts : Nat → Int32} {tl : Int64} {tv : Nat → Int64} {su : Nat → Nat} {D : Nat → Nat → Int32} {ρ : Nat → Nat} (hρ : y_ds ρ B) {i : Nat} {ea : Int32} {sv ty hv : Nat → Int32} {nm : Nat → Int64} (d : Nat) {tx : Nat → Int32} {n c p : Nat} (hr : s_rtx tx bf n) (hn8 : n ≤ 800) (hsp : z_split bf tx n tk ts tv c) (hat : z_at tx bf n c K tl p) {rd : Nat → Int32} {m : Nat} (hcol : y_col rd sv ty nm m) : x_M G mX6_takeColumn (d + 3) 0 0 [.ref (ρ 0)] (cset (rset B ρ i 0 ea sv nm ty hv) J bf K tk ts tl tv su D) (x_QR tx bf n c (fun er ea K tl => cset (rset B ρ i er ea sv nm ty hv) J bf K tk ts tl tv su D) ea (l_known rd tx n p m) (fun v => some (.int v)) (some (.int (-1)))) x_noX := by
  refine X_M hG okX6_takeColumn rfl (L := [some (.ref (ρ 0)), none, none]) rfl (Nat.le_of_ble_eq_true rfl) (fun ad0 nb0 => ?_)
  obtain ⟨hp, j, hj, hz, h3, h4, h5, h6, htl⟩ := id hat
  refine X_ld rfl rfl rfl rfl ?_
  refine X_get f_X6_26 rfl (c_B (hρ.o 0 (by decide)) rs_r) rfl ?_
  refine X_get f_X6_88 rfl c_T (v := .int (nI (l_sk tx n p))) (congrArg Value.int h6) ?_
  refine X_st rfl rfl rfl ?_
  refine X_ld rfl rfl rfl rfl ?_
  refine X_get f_X6_12 rfl (c_B (hρ.o 0 (by decide)) rs_r) rfl ?_
  refine X_ld rfl rfl rfl rfl ?_
  refine X_vcallP (c_B (hρ.o 0 (by decide)) rs_r) l_X6_X6_takeName (p_takeName hG hK hρ (d + 1) hr hn8 hsp hat) rfl rfl rfl rfl (Nat.le_of_ble_eq_true rfl) (Nat.le_of_ble_eq_true rfl) (by omega) (by omega) (by omega) (fun N1 r hq => ?_)
  by_cases hnm : l_nm tx n p
  · rw [show y_tn tx n p = _ from if_pos hnm] at hq
    obtain ⟨K1, tl1, hat1, rfl, rfl⟩ := hq
    refine X_stk (st' := [.long (s_nmv tx (l_sk tx n p) (l_we tx n p - l_sk tx n p)), .ref (ρ 1)]) rfl ?_
    refine X_vcall (c_B (hρ.o 1 (by decide)) (rs_st hρ)) l_X6_X5_findColumn (p_findColumn hG (d + 2) (hρ.o 1 (by decide)) (rs_st hρ) (congrArg Value.int hcol.2.1) rfl (hρ.o 2 (by decide)) (rs_a1 hρ) hcol.1) rfl rfl rfl rfl (Nat.le_of_ble_eq_true rfl) (Nat.le_of_ble_eq_true rfl) (by omega) (by omega) (by omega) ?_
    have hsk := y_sk hcol hp hnm
    refine X_st rfl rfl rfl ?_
    refine X_ld rfl rfl rfl rfl ?_
    rcases s_first_ok (P := fun j => decide (nm j = s_nmv tx (l_sk tx n p) (l_we tx n p - l_sk tx n p))) m (by have := hcol.1; omega) with ⟨g1, -⟩ | ⟨s, g1, g2, -⟩
    · refine X_if_ge rfl (fun c21 => absurd (by rw [g1] at c21; exact c21) (show ¬ (0 : Int32) ≤ -1 by decide)) (fun c21 => ?_)
      refine X_ld rfl rfl rfl rfl ?_
      refine X_push (v := .int (-4)) rfl (by decide +kernel) ?_
      refine X_ld rfl rfl rfl rfl ?_
      obtain ⟨hp1, j1, hj1, hz1, k3, k4, k5, k6, ktl⟩ := id hat1
      refine X_vcallv (c_B (hρ.o 0 (by decide)) rs_r) l_X6_X6_fail (p_fail hG hK hρ (d + 2) rfl (x := (-4)) (y := nI (l_sk tx n p))) rfl rfl rfl rfl (Nat.le_of_ble_eq_true rfl) (Nat.le_of_ble_eq_true rfl) (by omega) (by omega) (by omega) ?_
      refine X_ld rfl rfl rfl rfl ?_
      exact X_iret rfl rfl (x_QRe (show l_known rd tx n p m = .inl (-4, l_sk tx n p) by unfold l_known; rw [if_pos hnm, hsk, if_pos g1]) (by decide) (z_er_mk k4 (by have := hsp.1.2; omega)) rfl (by rw [g1])) (Nat.le_of_ble_eq_true rfl) (Nat.le_of_ble_eq_true rfl)
    · refine X_if_ge rfl (fun c21 => ?_) (fun c21 => absurd (by rw [g2]; exact nI_ge0 (by have := hcol.1; omega)) c21)
      refine X_ld rfl rfl rfl rfl ?_
      exact X_iret rfl rfl (x_QRo (show l_known rd tx n p m = _ by unfold l_known; rw [if_pos hnm, hsk, if_neg (fun q => nI_ne_neg (show s < 2147483648 by have := hcol.1; omega) (g2.symm.trans q))]) hat1 rfl rfl) (Nat.le_of_ble_eq_true rfl) (Nat.le_of_ble_eq_true rfl)
  · rw [show y_tn tx n p = _ from if_neg hnm] at hq
    obtain ⟨hx9, K1, tl1, hek, rfl, rfl⟩ := hq
    refine X_stk (st' := [.long 0, .ref (ρ 1)]) rfl ?_
    refine X_vcall (c_B (hρ.o 1 (by decide)) (rs_st hρ)) l_X6_X5_findColumn (p_findColumn hG (d + 2) (hρ.o 1 (by decide)) (rs_st hρ) (congrArg Value.int hcol.2.1) rfl (hρ.o 2 (by decide)) (rs_a1 hρ) hcol.1) rfl rfl rfl rfl (Nat.le_of_ble_eq_true rfl) (Nat.le_of_ble_eq_true rfl) (by omega) (by omega) (by omega) ?_
    refine X_stk (st' := [.int (-1)]) (congrArg (fun q => [Value.int q]) (s_first_no m (y_col0 hcol))) ?_
    refine X_st rfl rfl rfl ?_
    refine X_ld rfl rfl rfl rfl ?_
    refine X_if_ge rfl (fun c21 => absurd c21 (by decide)) (fun c21 => ?_)
    refine X_ld rfl rfl rfl rfl ?_
    refine X_push (v := .int (-4)) rfl (by decide +kernel) ?_
    refine X_ld rfl rfl rfl rfl ?_
    refine X_vcallv (c_B (hρ.o 0 (by decide)) rs_r) l_X6_X6_fail (p_failX hG hK hρ (d + 2) (by decide)) rfl rfl rfl rfl (Nat.le_of_ble_eq_true rfl) (Nat.le_of_ble_eq_true rfl) (by omega) (by omega) (by omega) ?_
    refine X_ld rfl rfl rfl rfl ?_
    exact X_iret rfl rfl (x_QRe (show l_known rd tx n p m = _ from if_neg hnm) (by decide) hek rfl rfl) (Nat.le_of_ble_eq_true rfl) (Nat.le_of_ble_eq_true rfl)
theorem p_takeColumnX {G : XE} (hG : x_Kn G) (hK : x_KS G) {B : XH} {J bf K tk ts : Nat → Int32} {tl : Int64} {tv : Nat → Int64} {su : Nat → Nat} {D : Nat → Nat → Int32} {ρ : Nat → Nat} (hρ : y_ds ρ B) {i : Nat} {er ea : Int32} {sv ty hv : Nat → Int32} {nm : Nat → Int64} (d : Nat) (her : ¬ er = 0) (hek : z_er K) {rd : Nat → Int32} {m : Nat} (hcol : y_col rd sv ty nm m) : x_M G mX6_takeColumn (d + 3) 0 0 [.ref (ρ 0)] (cset (rset B ρ i er ea sv nm ty hv) J bf K tk ts tl tv su D) (x_Ret (cset (rset B ρ i er ea sv nm ty hv) J bf K tk ts tl tv su D) (.int (-1))) x_noX := by
  refine X_M hG okX6_takeColumn rfl (L := [some (.ref (ρ 0)), none, none]) rfl (Nat.le_of_ble_eq_true rfl) (fun ad0 nb0 => ?_)
  obtain ⟨h3, h5, j, hj8, h4⟩ := id hek
  refine X_ld rfl rfl rfl rfl ?_
  refine X_get f_X6_26 rfl (c_B (hρ.o 0 (by decide)) rs_r) rfl ?_
  refine X_get f_X6_88 rfl c_T rfl ?_
  refine X_st rfl rfl rfl ?_
  refine X_ld rfl rfl rfl rfl ?_
  refine X_get f_X6_12 rfl (c_B (hρ.o 0 (by decide)) rs_r) rfl ?_
  refine X_ld rfl rfl rfl rfl ?_
  refine X_vcall (c_B (hρ.o 0 (by decide)) rs_r) l_X6_X6_takeName (p_takeNameX hG hK hρ (d + 1) her hek) rfl rfl rfl rfl (Nat.le_of_ble_eq_true rfl) (Nat.le_of_ble_eq_true rfl) (by omega) (by omega) (by omega) ?_
  refine X_vcall (c_B (hρ.o 1 (by decide)) (rs_st hρ)) l_X6_X5_findColumn (p_findColumn hG (d + 2) (hρ.o 1 (by decide)) (rs_st hρ) (congrArg Value.int hcol.2.1) rfl (hρ.o 2 (by decide)) (rs_a1 hρ) hcol.1) rfl rfl rfl rfl (Nat.le_of_ble_eq_true rfl) (Nat.le_of_ble_eq_true rfl) (by omega) (by omega) (by omega) ?_
  refine X_stk (st' := [.int (-1)]) (congrArg (fun q => [Value.int q]) (s_first_no m (y_col0 hcol))) ?_
  refine X_st rfl rfl rfl ?_
  refine X_ld rfl rfl rfl rfl ?_
  refine X_if_ge rfl (fun c21 => absurd c21 (by decide)) (fun c21 => ?_)
  refine X_ld rfl rfl rfl rfl ?_
  refine X_push (v := .int (-4)) rfl (by decide +kernel) ?_
  refine X_ld rfl rfl rfl rfl ?_
  refine X_vcallv (c_B (hρ.o 0 (by decide)) rs_r) l_X6_X6_fail (p_failX hG hK hρ (d + 2) her) rfl rfl rfl rfl (Nat.le_of_ble_eq_true rfl) (Nat.le_of_ble_eq_true rfl) (by omega) (by omega) (by omega) ?_
  refine X_ld rfl rfl rfl rfl ?_
  exact X_iret rfl rfl ⟨rfl, rfl⟩ (Nat.le_of_ble_eq_true rfl) (Nat.le_of_ble_eq_true rfl)
theorem p_takeType {G : XE} (hG : x_Kn G) (hK : x_KS G) {B : XH} {J bf K tk ts : Nat → Int32} {tl : Int64} {tv : Nat → Int64} {su : Nat → Nat} {D : Nat → Nat → Int32} {ρ : Nat → Nat} (hρ : y_ds ρ B) {i : Nat} {ea : Int32} {sv ty hv : Nat → Int32} {nm : Nat → Int64} (d : Nat) {tx : Nat → Int32} {n c p : Nat} (hr : s_rtx tx bf n) (hn8 : n ≤ 800) (hsp : z_split bf tx n tk ts tv c) (hat : z_at tx bf n c K tl p) : x_M G mX6_takeType (d + 6) 0 0 [.ref (ρ 0)] (cset (rset B ρ i 0 ea sv nm ty hv) J bf K tk ts tl tv su D) (x_QR tx bf n c (fun er ea K tl => cset (rset B ρ i er ea sv nm ty hv) J bf K tk ts tl tv su D) ea (l_type tx n p) (fun v => some (.int v)) (some (.int (-1)))) x_noX := by
  refine X_M hG okX6_takeType rfl (L := [some (.ref (ρ 0)), none]) rfl (Nat.le_of_ble_eq_true rfl) (fun ad0 nb0 => ?_)
  obtain ⟨hp, j, hj, hz, h3, h4, h5, h6, htl⟩ := id hat
  refine X_push (v := .int (-1)) rfl (by decide +kernel) ?_
  refine X_st rfl rfl rfl ?_
  refine X_ld rfl rfl rfl rfl ?_
  refine X_get f_X6_26 rfl (c_B (hρ.o 0 (by decide)) rs_r) rfl ?_
  refine X_ldcS (i := 18) hK (List.mem_of_getElem? (i := 18) rfl) (by decide) rfl ?_
  refine X_vcall c_T l_X6_X8_isWord (p_isWord hG hK d 18 (by decide)) rfl rfl rfl rfl (Nat.le_of_ble_eq_true rfl) (Nat.le_of_ble_eq_true rfl) (by omega) (by omega) (by omega) ?_
  refine X_if_eq rfl (fun c11 => ?_) (fun c11 => ?_)
  · have n0 : ¬ l_isw tx n p (x_w 5) = true := fun q => bI_ne.mpr ⟨h5.trans ((z_word hr hp 18 (by decide) (by decide) (by decide) (by decide)).mpr q).1, htl.trans ((z_word hr hp 18 (by decide) (by decide) (by decide) (by decide)).mpr q).2⟩ c11
    refine X_ld rfl rfl rfl rfl ?_
    refine X_get f_X6_26 rfl (c_B (hρ.o 0 (by decide)) rs_r) rfl ?_
    refine X_ldcS (i := 19) hK (List.mem_of_getElem? (i := 19) rfl) (by decide) rfl ?_
    refine X_vcall c_T l_X6_X8_isWord (p_isWord hG hK d 19 (by decide)) rfl rfl rfl rfl (Nat.le_of_ble_eq_true rfl) (Nat.le_of_ble_eq_true rfl) (by omega) (by omega) (by omega) ?_
    refine X_if_eq rfl (fun c28 => ?_) (fun c28 => ?_)
    · have n1 : ¬ l_isw tx n p (x_w 6) = true := fun q => bI_ne.mpr ⟨h5.trans ((z_word hr hp 19 (by decide) (by decide) (by decide) (by decide)).mpr q).1, htl.trans ((z_word hr hp 19 (by decide) (by decide) (by decide) (by decide)).mpr q).2⟩ c28
      refine X_ld rfl rfl rfl rfl ?_
      refine X_get f_X6_26 rfl (c_B (hρ.o 0 (by decide)) rs_r) rfl ?_
      refine X_ldcS (i := 20) hK (List.mem_of_getElem? (i := 20) rfl) (by decide) rfl ?_
      refine X_vcall c_T l_X6_X8_isWord (p_isWord hG hK d 20 (by decide)) rfl rfl rfl rfl (Nat.le_of_ble_eq_true rfl) (Nat.le_of_ble_eq_true rfl) (by omega) (by omega) (by omega) ?_
      refine X_if_eq rfl (fun c45 => ?_) (fun c45 => ?_)
      · have n2 : ¬ l_isw tx n p (x_w 7) = true := fun q => bI_ne.mpr ⟨h5.trans ((z_word hr hp 20 (by decide) (by decide) (by decide) (by decide)).mpr q).1, htl.trans ((z_word hr hp 20 (by decide) (by decide) (by decide) (by decide)).mpr q).2⟩ c45
        refine X_ld rfl rfl rfl rfl ?_
        refine X_push (v := .int (-2)) rfl (by decide +kernel) ?_
        refine X_ld rfl rfl rfl rfl ?_
        refine X_get f_X6_26 rfl (c_B (hρ.o 0 (by decide)) rs_r) rfl ?_
        refine X_get f_X6_88 rfl c_T (v := .int (nI (l_sk tx n p))) (congrArg Value.int h6) ?_
        refine X_vcallv (c_B (hρ.o 0 (by decide)) rs_r) l_X6_X6_fail (p_fail hG hK hρ (d + 5) rfl (x := (-2)) (y := nI (l_sk tx n p))) rfl rfl rfl rfl (Nat.le_of_ble_eq_true rfl) (Nat.le_of_ble_eq_true rfl) (by omega) (by omega) (by omega) ?_
        refine X_ld rfl rfl rfl rfl ?_
        refine X_get f_X6_26 rfl (c_B (hρ.o 0 (by decide)) rs_r) rfl ?_
        refine X_vcallv c_T l_X6_X8_advance (p_advance hG (d + 5) (c := 0) (K := (upd (upd K 3 0) 5 256)) (by rw [updI_ne (by decide), updI_eq]; rfl) ((updI_ne (by decide)).trans ((updI_ne (by decide)).trans h4)) (by omega) (by have := hsp.1.2; omega)) rfl rfl rfl rfl (Nat.le_of_ble_eq_true rfl) (Nat.le_of_ble_eq_true rfl) (by omega) (by omega) (by omega) ?_
        refine X_heap (N' := cset (rset B ρ i (-2) (nI (l_sk tx n p)) sv nm ty hv) J bf (upd (upd K 3 0) 5 256) tk ts tl tv su D) (by rw [(z_adX (K := (upd (upd K 3 0) 5 256)) (tk := tk) (ts := ts) (tv := tv) (tl := tl) updI_eq).1, (z_adX (K := (upd (upd K 3 0) 5 256)) (tk := tk) (ts := ts) (tv := tv) (tl := tl) updI_eq).2]) ?_
        refine X_ld rfl rfl rfl rfl ?_
        exact X_iret rfl rfl (x_QRe (show l_type tx n p = _ by unfold l_type; rw [if_neg n0, if_neg n1, if_neg n2]) (by decide) (z_er_mk h4 (by have := hsp.1.2; omega)) rfl rfl) (Nat.le_of_ble_eq_true rfl) (Nat.le_of_ble_eq_true rfl)
      · have hb := bI_ne.mp c45
        have hisw : l_isw tx n p (x_w 7) = true := (z_word hr hp 20 (by decide) (by decide) (by decide) (by decide)).mp ⟨h5.symm.trans hb.1, htl.symm.trans hb.2⟩
        have hq : l_sk tx n p < n := by have := l_isw_we hisw; have := l_we_le (tx := tx) hp; have := ((z_isw hp 7).mp hisw).2.1; omega
        refine X_push (v := .int 2) rfl (by decide +kernel) ?_
        refine X_st rfl rfl rfl ?_
        refine X_goto rfl ?_
        refine X_ld rfl rfl rfl rfl ?_
        refine X_get f_X6_26 rfl (c_B (hρ.o 0 (by decide)) rs_r) rfl ?_
        refine X_vcallv c_T l_X6_X8_advance (p_advance hG (d + 5) h3 h4 (by have := hsp.1.2; omega) (by have := hsp.1.2; omega)) rfl rfl rfl rfl (Nat.le_of_ble_eq_true rfl) (Nat.le_of_ble_eq_true rfl) (by omega) (by omega) (by omega) ?_
        have hA := z_adv (tk := tk) (ts := ts) (tv := tv) (tl := tl) hsp hp hj hz h3 hq
        rw [z_wte hp 7 hisw] at hA
        refine X_ld rfl rfl rfl rfl ?_
        exact X_iret rfl rfl (x_QRo (show l_type tx n p = _ by unfold l_type; rw [if_neg n0, if_neg n1, if_pos hisw]) hA rfl rfl) (Nat.le_of_ble_eq_true rfl) (Nat.le_of_ble_eq_true rfl)
    · have hb := bI_ne.mp c28
      have hisw : l_isw tx n p (x_w 6) = true := (z_word hr hp 19 (by decide) (by decide) (by decide) (by decide)).mp ⟨h5.symm.trans hb.1, htl.symm.trans hb.2⟩
      have hq : l_sk tx n p < n := by have := l_isw_we hisw; have := l_we_le (tx := tx) hp; have := ((z_isw hp 6).mp hisw).2.1; omega
      refine X_push (v := .int 1) rfl (by decide +kernel) ?_
      refine X_st rfl rfl rfl ?_
      refine X_goto rfl ?_
      refine X_ld rfl rfl rfl rfl ?_
      refine X_get f_X6_26 rfl (c_B (hρ.o 0 (by decide)) rs_r) rfl ?_
      refine X_vcallv c_T l_X6_X8_advance (p_advance hG (d + 5) h3 h4 (by have := hsp.1.2; omega) (by have := hsp.1.2; omega)) rfl rfl rfl rfl (Nat.le_of_ble_eq_true rfl) (Nat.le_of_ble_eq_true rfl) (by omega) (by omega) (by omega) ?_
      have hA := z_adv (tk := tk) (ts := ts) (tv := tv) (tl := tl) hsp hp hj hz h3 hq
      rw [z_wte hp 6 hisw] at hA
      refine X_ld rfl rfl rfl rfl ?_
      exact X_iret rfl rfl (x_QRo (show l_type tx n p = _ by unfold l_type; rw [if_neg n0, if_pos hisw]) hA rfl rfl) (Nat.le_of_ble_eq_true rfl) (Nat.le_of_ble_eq_true rfl)
  · have hb := bI_ne.mp c11
    have hisw : l_isw tx n p (x_w 5) = true := (z_word hr hp 18 (by decide) (by decide) (by decide) (by decide)).mp ⟨h5.symm.trans hb.1, htl.symm.trans hb.2⟩
    have hq : l_sk tx n p < n := by have := l_isw_we hisw; have := l_we_le (tx := tx) hp; have := ((z_isw hp 5).mp hisw).2.1; omega
    refine X_push (v := .int 0) rfl (by decide +kernel) ?_
    refine X_st rfl rfl rfl ?_
    refine X_goto rfl ?_
    refine X_ld rfl rfl rfl rfl ?_
    refine X_get f_X6_26 rfl (c_B (hρ.o 0 (by decide)) rs_r) rfl ?_
    refine X_vcallv c_T l_X6_X8_advance (p_advance hG (d + 5) h3 h4 (by have := hsp.1.2; omega) (by have := hsp.1.2; omega)) rfl rfl rfl rfl (Nat.le_of_ble_eq_true rfl) (Nat.le_of_ble_eq_true rfl) (by omega) (by omega) (by omega) ?_
    have hA := z_adv (tk := tk) (ts := ts) (tv := tv) (tl := tl) hsp hp hj hz h3 hq
    rw [z_wte hp 5 hisw] at hA
    refine X_ld rfl rfl rfl rfl ?_
    exact X_iret rfl rfl (x_QRo (show l_type tx n p = _ by unfold l_type; rw [if_pos hisw]) hA rfl rfl) (Nat.le_of_ble_eq_true rfl) (Nat.le_of_ble_eq_true rfl)
theorem p_takeTypeX {G : XE} (hG : x_Kn G) (hK : x_KS G) {B : XH} {J bf K tk ts : Nat → Int32} {tl : Int64} {tv : Nat → Int64} {su : Nat → Nat} {D : Nat → Nat → Int32} {ρ : Nat → Nat} (hρ : y_ds ρ B) {i : Nat} {er ea : Int32} {sv ty hv : Nat → Int32} {nm : Nat → Int64} (d : Nat) (her : ¬ er = 0) (hek : z_er K) : x_M G mX6_takeType (d + 6) 0 0 [.ref (ρ 0)] (cset (rset B ρ i er ea sv nm ty hv) J bf K tk ts tl tv su D) (x_Ret (cset (rset B ρ i er ea sv nm ty hv) J bf K tk ts tl tv su D) (.int (-1))) x_noX := by
  refine X_M hG okX6_takeType rfl (L := [some (.ref (ρ 0)), none]) rfl (Nat.le_of_ble_eq_true rfl) (fun ad0 nb0 => ?_)
  obtain ⟨h3, h5, j, hj8, h4⟩ := id hek
  refine X_push (v := .int (-1)) rfl (by decide +kernel) ?_
  refine X_st rfl rfl rfl ?_
  refine X_ld rfl rfl rfl rfl ?_
  refine X_get f_X6_26 rfl (c_B (hρ.o 0 (by decide)) rs_r) rfl ?_
  refine X_ldcS (i := 18) hK (List.mem_of_getElem? (i := 18) rfl) (by decide) rfl ?_
  refine X_vcall c_T l_X6_X8_isWord (p_isWord hG hK d 18 (by decide)) rfl rfl rfl rfl (Nat.le_of_ble_eq_true rfl) (Nat.le_of_ble_eq_true rfl) (by omega) (by omega) (by omega) ?_
  refine X_if_eq rfl (fun c11 => ?_) (fun c11 => absurd ((bI_ne.mp c11).1.symm.trans h5) (by decide))
  refine X_ld rfl rfl rfl rfl ?_
  refine X_get f_X6_26 rfl (c_B (hρ.o 0 (by decide)) rs_r) rfl ?_
  refine X_ldcS (i := 19) hK (List.mem_of_getElem? (i := 19) rfl) (by decide) rfl ?_
  refine X_vcall c_T l_X6_X8_isWord (p_isWord hG hK d 19 (by decide)) rfl rfl rfl rfl (Nat.le_of_ble_eq_true rfl) (Nat.le_of_ble_eq_true rfl) (by omega) (by omega) (by omega) ?_
  refine X_if_eq rfl (fun c28 => ?_) (fun c28 => absurd ((bI_ne.mp c28).1.symm.trans h5) (by decide))
  refine X_ld rfl rfl rfl rfl ?_
  refine X_get f_X6_26 rfl (c_B (hρ.o 0 (by decide)) rs_r) rfl ?_
  refine X_ldcS (i := 20) hK (List.mem_of_getElem? (i := 20) rfl) (by decide) rfl ?_
  refine X_vcall c_T l_X6_X8_isWord (p_isWord hG hK d 20 (by decide)) rfl rfl rfl rfl (Nat.le_of_ble_eq_true rfl) (Nat.le_of_ble_eq_true rfl) (by omega) (by omega) (by omega) ?_
  refine X_if_eq rfl (fun c45 => ?_) (fun c45 => absurd ((bI_ne.mp c45).1.symm.trans h5) (by decide))
  refine X_ld rfl rfl rfl rfl ?_
  refine X_push (v := .int (-2)) rfl (by decide +kernel) ?_
  refine X_ld rfl rfl rfl rfl ?_
  refine X_get f_X6_26 rfl (c_B (hρ.o 0 (by decide)) rs_r) rfl ?_
  refine X_get f_X6_88 rfl c_T rfl ?_
  refine X_vcallv (c_B (hρ.o 0 (by decide)) rs_r) l_X6_X6_fail (p_failX hG hK hρ (d + 5) her) rfl rfl rfl rfl (Nat.le_of_ble_eq_true rfl) (Nat.le_of_ble_eq_true rfl) (by omega) (by omega) (by omega) ?_
  refine X_ld rfl rfl rfl rfl ?_
  refine X_get f_X6_26 rfl (c_B (hρ.o 0 (by decide)) rs_r) rfl ?_
  refine X_vcallv c_T l_X6_X8_advance (p_advance hG (d + 5) h3 h4 (by omega) hj8) rfl rfl rfl rfl (Nat.le_of_ble_eq_true rfl) (Nat.le_of_ble_eq_true rfl) (by omega) (by omega) (by omega) ?_
  refine X_heap (N' := cset (rset B ρ i er ea sv nm ty hv) J bf K tk ts tl tv su D) (by rw [(z_adX (tk := tk) (ts := ts) (tv := tv) (tl := tl) h5).1, (z_adX (tk := tk) (ts := ts) (tv := tv) (tl := tl) h5).2]) ?_
  refine X_ld rfl rfl rfl rfl ?_
  exact X_iret rfl rfl ⟨rfl, rfl⟩ (Nat.le_of_ble_eq_true rfl) (Nat.le_of_ble_eq_true rfl)
def y_ts (tx : Nat → Int32) (n p : Nat) : LE (Nat × Int32) := if l_see tx n p = 60 ∨ l_see tx n p = 61 ∨ l_see tx n p = 62 then .inr (l_sk tx n p + 1, l_see tx n p) else .inl (-2, l_sk tx n p)
theorem z_sg (s : Nat) (hs : s = 59 ∨ s = 40 ∨ s = 41 ∨ s = 60 ∨ s = 61 ∨ s = 62 ∨ s = 63) : s < 256 ∧ ¬ s_let (nI s) ∧ ¬ s_dig (nI s) := by
  rcases hs with rfl | rfl | rfl | rfl | rfl | rfl | rfl <;> exact ⟨by decide, by decide, by decide⟩
theorem z_s' {tx bf : Nat → Int32} {n p : Nat} (hr : s_rtx tx bf n) (hp : p ≤ n) (s : Nat) (hs : s = 59 ∨ s = 40 ∨ s = 41 ∨ s = 60 ∨ s = 61 ∨ s = 62 ∨ s = 63) : z_tk bf tx n (l_sk tx n p) = nI s ↔ l_see tx n p = nI s := z_sign hr hp (z_sg s hs).1 (z_sg s hs).2.1 (z_sg s hs).2.2
theorem y_i2c : ((nI 60).toUInt32 % 65536).toInt32 = nI 60 ∧ ((nI 62).toUInt32 % 65536).toInt32 = nI 62 := by decide +kernel
theorem p_takeSign {G : XE} (hG : x_Kn G) (hK : x_KS G) {B : XH} {J bf K tk ts : Nat → Int32} {tl : Int64} {tv : Nat → Int64} {su : Nat → Nat} {D : Nat → Nat → Int32} {ρ : Nat → Nat} (hρ : y_ds ρ B) {i : Nat} {ea : Int32} {sv ty hv : Nat → Int32} {nm : Nat → Int64} (d : Nat) {tx : Nat → Int32} {n c p : Nat} (hr : s_rtx tx bf n) (hn8 : n ≤ 800) (hsp : z_split bf tx n tk ts tv c) (hat : z_at tx bf n c K tl p) : x_M G mX6_takeSign (d + 2) 0 0 [.ref (ρ 0)] (cset (rset B ρ i 0 ea sv nm ty hv) J bf K tk ts tl tv su D) (x_QR tx bf n c (fun er ea K tl => cset (rset B ρ i er ea sv nm ty hv) J bf K tk ts tl tv su D) ea (y_ts tx n p) (fun v => some (.int v)) (some (.int 61))) x_noX := by
  refine X_M hG okX6_takeSign rfl (L := [some (.ref (ρ 0)), none]) rfl (Nat.le_of_ble_eq_true rfl) (fun ad0 nb0 => ?_)
  obtain ⟨hp, j, hj, hz, h3, h4, h5, h6, htl⟩ := id hat
  refine X_push (v := .int 61) rfl (by decide +kernel) ?_
  refine X_st rfl rfl rfl ?_
  refine X_ld rfl rfl rfl rfl ?_
  refine X_get f_X6_26 rfl (c_B (hρ.o 0 (by decide)) rs_r) rfl ?_
  refine X_get f_X6_85 rfl c_T (v := .int (z_tk bf tx n (l_sk tx n p))) (congrArg Value.int h5) ?_
  refine X_push (v := .int 60) rfl (by decide +kernel) ?_
  refine X_icmp_eq rfl (fun c12 => ?_) (fun c12 => ?_)
  · have hsee := (z_s' hr hp 60 (by decide)).mp c12
    refine X_ld rfl rfl rfl rfl ?_
    refine X_get f_X6_26 rfl (c_B (hρ.o 0 (by decide)) rs_r) rfl ?_
    refine X_get f_X6_85 rfl c_T (v := .int (z_tk bf tx n (l_sk tx n p))) (congrArg Value.int h5) ?_
    refine X_un rfl rfl ?_
    refine X_stk (st' := [.int (nI 60)]) (by rw [c12]; exact congrArg (fun q => [Value.int q]) y_i2c.1) ?_
    refine X_st rfl rfl rfl ?_
    refine X_ld rfl rfl rfl rfl ?_
    refine X_ld rfl rfl rfl rfl ?_
    refine X_vcallP (c_B (hρ.o 0 (by decide)) rs_r) l_X6_X6_expectByte (p_expectByte hG hK hρ d hr hn8 hsp hat (s := 60) (by decide) (by decide) (by decide)) rfl rfl rfl rfl (Nat.le_of_ble_eq_true rfl) (Nat.le_of_ble_eq_true rfl) (by omega) (by omega) (by omega) (fun N1 r hq => ?_)
    rw [show y_wb tx n (nI 60) p = _ from if_pos hsee] at hq
    obtain ⟨K1, tl1, hat1, rfl, rfl⟩ := hq
    refine X_stk (st' := []) rfl ?_
    refine X_ld rfl rfl rfl rfl ?_
    exact X_zret rfl rfl (by decide) (x_QRo (show y_ts tx n p = _ from if_pos (by rw [hsee]; decide)) hat1 rfl (by rw [hsee])) (Nat.le_of_ble_eq_true rfl) (Nat.le_of_ble_eq_true rfl)
  · refine X_ld rfl rfl rfl rfl ?_
    refine X_get f_X6_26 rfl (c_B (hρ.o 0 (by decide)) rs_r) rfl ?_
    refine X_get f_X6_85 rfl c_T (v := .int (z_tk bf tx n (l_sk tx n p))) (congrArg Value.int h5) ?_
    refine X_push (v := .int 62) rfl (by decide +kernel) ?_
    refine X_icmp_ne rfl (fun c24 => ?_) (fun c24 => ?_)
    · have m60 : ¬ l_see tx n p = 60 := fun q => c12 ((z_s' hr hp 60 (by decide)).mpr q)
      have m62 : ¬ l_see tx n p = 62 := fun q => c24 ((z_s' hr hp 62 (by decide)).mpr q)
      refine X_ld rfl rfl rfl rfl ?_
      refine X_ld rfl rfl rfl rfl ?_
      refine X_vcallP (c_B (hρ.o 0 (by decide)) rs_r) l_X6_X6_expectByte (p_expectByte hG hK hρ d hr hn8 hsp hat (s := 61) (by decide) (by decide) (by decide)) rfl rfl rfl rfl (Nat.le_of_ble_eq_true rfl) (Nat.le_of_ble_eq_true rfl) (by omega) (by omega) (by omega) (fun N1 r hq => ?_)
      by_cases h61 : l_see tx n p = 61
      · rw [show y_wb tx n (nI 61) p = _ from if_pos h61] at hq
        obtain ⟨K1, tl1, hat1, rfl, rfl⟩ := hq
        refine X_stk (st' := []) rfl ?_
        refine X_ld rfl rfl rfl rfl ?_
        exact X_zret rfl rfl (by decide) (x_QRo (show y_ts tx n p = _ from if_pos (Or.inr (Or.inl h61))) hat1 rfl (by rw [h61])) (Nat.le_of_ble_eq_true rfl) (Nat.le_of_ble_eq_true rfl)
      · rw [show y_wb tx n (nI 61) p = _ from if_neg h61] at hq
        obtain ⟨hx9, K1, tl1, hek, rfl, rfl⟩ := hq
        refine X_stk (st' := []) rfl ?_
        refine X_ld rfl rfl rfl rfl ?_
        exact X_zret rfl rfl (by decide) (x_QRe (show y_ts tx n p = _ from if_neg (fun q => q.elim m60 (fun q => q.elim h61 m62))) (by decide) hek rfl rfl) (Nat.le_of_ble_eq_true rfl) (Nat.le_of_ble_eq_true rfl)
    · have hsee := (z_s' hr hp 62 (by decide)).mp c24
      refine X_ld rfl rfl rfl rfl ?_
      refine X_get f_X6_26 rfl (c_B (hρ.o 0 (by decide)) rs_r) rfl ?_
      refine X_get f_X6_85 rfl c_T (v := .int (z_tk bf tx n (l_sk tx n p))) (congrArg Value.int h5) ?_
      refine X_un rfl rfl ?_
      refine X_stk (st' := [.int (nI 62)]) (by rw [c24]; exact congrArg (fun q => [Value.int q]) y_i2c.2) ?_
      refine X_st rfl rfl rfl ?_
      refine X_ld rfl rfl rfl rfl ?_
      refine X_ld rfl rfl rfl rfl ?_
      refine X_vcallP (c_B (hρ.o 0 (by decide)) rs_r) l_X6_X6_expectByte (p_expectByte hG hK hρ d hr hn8 hsp hat (s := 62) (by decide) (by decide) (by decide)) rfl rfl rfl rfl (Nat.le_of_ble_eq_true rfl) (Nat.le_of_ble_eq_true rfl) (by omega) (by omega) (by omega) (fun N1 r hq => ?_)
      rw [show y_wb tx n (nI 62) p = _ from if_pos hsee] at hq
      obtain ⟨K1, tl1, hat1, rfl, rfl⟩ := hq
      refine X_stk (st' := []) rfl ?_
      refine X_ld rfl rfl rfl rfl ?_
      exact X_zret rfl rfl (by decide) (x_QRo (show y_ts tx n p = _ from if_pos (by rw [hsee]; decide)) hat1 rfl (by rw [hsee])) (Nat.le_of_ble_eq_true rfl) (Nat.le_of_ble_eq_true rfl)
theorem p_takeSignX {G : XE} (hG : x_Kn G) (hK : x_KS G) {B : XH} {J bf K tk ts : Nat → Int32} {tl : Int64} {tv : Nat → Int64} {su : Nat → Nat} {D : Nat → Nat → Int32} {ρ : Nat → Nat} (hρ : y_ds ρ B) {i : Nat} {er ea : Int32} {sv ty hv : Nat → Int32} {nm : Nat → Int64} (d : Nat) (her : ¬ er = 0) (hek : z_er K) : x_M G mX6_takeSign (d + 2) 0 0 [.ref (ρ 0)] (cset (rset B ρ i er ea sv nm ty hv) J bf K tk ts tl tv su D) (x_Ret (cset (rset B ρ i er ea sv nm ty hv) J bf K tk ts tl tv su D) (.int 61)) x_noX := by
  refine X_M hG okX6_takeSign rfl (L := [some (.ref (ρ 0)), none]) rfl (Nat.le_of_ble_eq_true rfl) (fun ad0 nb0 => ?_)
  obtain ⟨h3, h5, j, hj8, h4⟩ := id hek
  refine X_push (v := .int 61) rfl (by decide +kernel) ?_
  refine X_st rfl rfl rfl ?_
  refine X_ld rfl rfl rfl rfl ?_
  refine X_get f_X6_26 rfl (c_B (hρ.o 0 (by decide)) rs_r) rfl ?_
  refine X_get f_X6_85 rfl c_T (v := .int 256) (congrArg Value.int h5) ?_
  refine X_push (v := .int 60) rfl (by decide +kernel) ?_
  refine X_icmp_eq rfl (fun c12 => absurd c12 (by decide)) (fun c12 => ?_)
  refine X_ld rfl rfl rfl rfl ?_
  refine X_get f_X6_26 rfl (c_B (hρ.o 0 (by decide)) rs_r) rfl ?_
  refine X_get f_X6_85 rfl c_T (v := .int 256) (congrArg Value.int h5) ?_
  refine X_push (v := .int 62) rfl (by decide +kernel) ?_
  refine X_icmp_ne rfl (fun c24 => ?_) (fun c24 => absurd c24 (by decide))
  refine X_ld rfl rfl rfl rfl ?_
  refine X_ld rfl rfl rfl rfl ?_
  refine X_vcallv (c_B (hρ.o 0 (by decide)) rs_r) l_X6_X6_expectByte (p_expectByteX hG hK hρ d her hek (s := 61) (by decide)) rfl rfl rfl rfl (Nat.le_of_ble_eq_true rfl) (Nat.le_of_ble_eq_true rfl) (by omega) (by omega) (by omega) ?_
  refine X_ld rfl rfl rfl rfl ?_
  exact X_zret rfl rfl (by decide) ⟨rfl, rfl⟩ (Nat.le_of_ble_eq_true rfl) (Nat.le_of_ble_eq_true rfl)

