/-! ===== statistics, rows that come and go, what is found, the row that was read (by hand) ===== -/
def md0 (e F A C : Nat → Int32) (l : Bool) (o : Nat) : Prop := (∀ k, 2 ≤ k → k < 21 → ¬ (3 ≤ k ∧ k ≤ 6) → e (cl k) = F k) ∧ (∀ p, p ∈ fx l o → e p.1 = p.2) ∧ ∃ m, m ≤ 40 ∧ F 2 = nI m ∧ ∀ q, q < m → e (75 + 5 * q) = A q ∧ e (75 + 5 * q + 1) = C q
theorem md.md0 {e F A C : Nat → Int32} {l : Bool} {o : Nat} (h : md e F A C l o) : md0 e F A C l o := ⟨fun k k1 k2 _ => h.1 k k1 k2, h.2.1, h.2.2⟩
theorem e_new_e {e A : Nat → Int32} {m q : Nat} (hv : ∀ k, k < m → e (75 + 5 * k) = A k) (hq : q < m) : ∀ n, n ≤ q → s_new e 0 q n = e_new A q n
  | 0, _ => rfl
  | n + 1, hn => by
    show (s_new e 0 q n && !decide (s_val e n 0 = s_val e q 0)) = (e_new A q n && !decide (A n = A q))
    rw [e_new_e hv hq n (by omega), show s_val e n 0 = A n from hv n (by omega), show s_val e q 0 = A q from hv q hq]
theorem e_unl_e {e A : Nat → Int32} {m : Nat} (hv : ∀ k, k < m → e (75 + 5 * k) = A k) : ∀ n, n ≤ m → s_unl e 0 n = e_unl A n
  | 0, _ => rfl
  | n + 1, hn => by
    show s_unl e 0 n + (bif s_new e 0 n n then 1 else 0) = e_unl A n + (bif e_new A n n then 1 else 0)
    rw [e_unl_e hv n (by omega), e_new_e hv (by omega) n (Nat.le_refl _)]
theorem e_ext_e {e F A : Nat → Int32} {m : Nat} (hm : m ≤ 40) (h1 : e 1 = nI m) (hF : F 2 = nI m) (hv : ∀ k, k < m → e (75 + 5 * k) = A k) (hb : ∀ k, k < m → ∃ x, x ≤ 9999 ∧ A k = nI x) : s_ext e 0 false m = e_lst F A m ∧ s_ext e 0 true m = e_grt A m := by
  rcases Nat.eq_zero_or_pos m with h0 | h0
  · subst h0
    have h1 : e 1 = 0 := h1
    have hF : F 2 = 0 := hF
    exact ⟨by show (if e 1 = 0 then 0 else s_val e 0 0) = (if F 2 = 0 then 0 else 9999); rw [if_pos h1, if_pos hF], by show (if e 1 = 0 then 0 else s_val e 0 0) = 0; rw [if_pos h1]⟩
  · have hne : ∀ x, x = nI m → ¬ x = 0 := fun x hx q => by
      rw [hx] at q
      have := (nI_eq (b := 0) (Nat.lt_of_le_of_lt hm (by decide)) (by decide)).mp q
      omega
    have st : ∀ n, n < m → s_ext e 0 false (n + 1) = e_lst F A (n + 1) ∧ s_ext e 0 true (n + 1) = e_grt A (n + 1) := by
      intro n
      induction n with
      | zero =>
        intro _
        obtain ⟨x, x1, x2⟩ := hb 0 h0
        have v0 : s_val e 0 0 = nI x := (hv 0 h0).trans x2
        constructor
        · show x_min (if e 1 = 0 then 0 else s_val e 0 0) (s_val e 0 0) = x_min (if F 2 = 0 then 0 else 9999) (A 0)
          rw [if_neg (hne _ h1), if_neg (hne _ hF), v0, x2, show (9999 : Int32) = nI 9999 from rfl, y_minN (Nat.lt_of_le_of_lt x1 (by decide)) (Nat.lt_of_le_of_lt x1 (by decide)), y_minN (by decide) (Nat.lt_of_le_of_lt x1 (by decide)), if_neg (Nat.lt_irrefl x)]
          by_cases c : x < 9999
          · rw [if_pos c]
          · rw [if_neg c]; exact congrArg nI (by omega)
        · show x_max (if e 1 = 0 then 0 else s_val e 0 0) (s_val e 0 0) = x_max 0 (A 0)
          rw [if_neg (hne _ h1), v0, x2, show (0 : Int32) = nI 0 from rfl, y_maxN (Nat.lt_of_le_of_lt x1 (by decide)) (Nat.lt_of_le_of_lt x1 (by decide)), y_maxN (by decide) (Nat.lt_of_le_of_lt x1 (by decide)), if_neg (Nat.lt_irrefl x)]
          by_cases c : 0 < x
          · rw [if_pos c]
          · rw [if_neg c]; exact congrArg nI (by omega)
      | succ n ih =>
        intro hn
        obtain ⟨a, b⟩ := ih (by omega)
        exact ⟨by show x_min (s_ext e 0 false (n + 1)) (s_val e (n + 1) 0) = x_min (e_lst F A (n + 1)) (A (n + 1)); rw [a, show s_val e (n + 1) 0 = _ from hv (n + 1) hn], by show x_max (s_ext e 0 true (n + 1)) (s_val e (n + 1) 0) = x_max (e_grt A (n + 1)) (A (n + 1)); rw [b, show s_val e (n + 1) 0 = _ from hv (n + 1) hn]⟩
    obtain ⟨n, rfl⟩ : ∃ n, m = n + 1 := ⟨m - 1, by omega⟩
    exact st n (by omega)
theorem e_ana_k {F A : Nat → Int32} {n k : Nat} (h : ¬ (3 ≤ k ∧ k ≤ 6)) : e_ana F A n k = F k := by
  unfold e_ana
  rw [updI_ne (by omega), updI_ne (by omega), updI_ne (by omega), updI_ne (by omega)]
def lkx : List Nat := [8, 20, 21, 22, 33, 34, 35]
theorem lkx_o {j : Nat} (h : ¬ j ∈ lkx) : j ≠ 8 ∧ ∀ i, i < 2 → ∀ x, 10 ≤ x → x ≤ 12 → j ≠ 10 + 13 * i + x := by
  refine ⟨fun q => h (by rw [q]; decide), fun i hi x xa xb q => h ?_⟩
  rw [q]
  rcases (show i = 0 ∨ i = 1 by omega) with rfl | rfl <;> rcases (show x = 10 ∨ x = 11 ∨ x = 12 by omega) with rfl | rfl | rfl <;> decide
theorem md0.look {e F A C : Nat → Int32} {l : Bool} {o : Nat} (h : md0 e F A C l o) (hb : ∀ k, k < s_lm e → ∃ x, x ≤ 9999 ∧ A k = nI x) : md (s_look e (s_lm e) 2) (e_ana F A (s_lm e)) A C l o := by
  obtain ⟨h1, h2, m, h3, h4, h5⟩ := h
  have e1 : e 1 = nI m := (h1 2 (by decide) (by decide) (by decide)).trans h4
  have hlm : s_lm e = m := n_of e1 (by omega)
  rw [hlm] at hb ⊢
  have hv := fun k (hk : k < m) => (h5 k hk).1
  obtain ⟨x1, x2⟩ := e_ext_e h3 e1 h4 hv hb
  have lk : ∀ j, j ≠ 8 → (∀ i, i < 2 → ∀ x, 10 ≤ x → x ≤ 12 → j ≠ 10 + 13 * i + x) → s_look e m 2 j = e j := fun j j8 jj => s_look_o j8 2 jj
  refine ⟨fun k k2 k21 => ?_, fun p hp => ?_, m, h3, (e_ana_k (by omega)).trans h4, fun q hq => ⟨?_, ?_⟩⟩
  · by_cases c3 : k = 3
    · subst c3
      exact (s_look_8 2).trans (h1 2 (by decide) (by decide) (by decide))
    · by_cases c4 : k = 4
      · subst c4
        exact (s_look_v (j := 0) 2 (by decide)).1.trans (e_unl_e hv m (Nat.le_refl _))
      · by_cases c5 : k = 5
        · subst c5
          exact (s_look_v (j := 0) 2 (by decide)).2.1.trans x1
        · by_cases c6 : k = 6
          · subst c6
            exact (s_look_v (j := 0) 2 (by decide)).2.2.trans x2
          · have hk : ¬ (3 ≤ k ∧ k ≤ 6) := by omega
            have hc := lkx_o ((show ∀ k, k < 21 → (2 ≤ k ∧ ¬ (3 ≤ k ∧ k ≤ 6)) → ¬ cl k ∈ lkx by decide +kernel) k k21 ⟨k2, hk⟩)
            rw [lk _ hc.1 hc.2, e_ana_k hk]
            exact h1 k k2 k21 hk
  · have hm : p.1 ∈ fxk := by
      have q1 : p.1 ∈ (fx l o).map Prod.fst := List.mem_map.mpr ⟨p, hp, rfl⟩
      exact q1
    have hc := lkx_o ((show ∀ j, j ∈ fxk → ¬ j ∈ lkx by decide +kernel) _ hm)
    rw [lk _ hc.1 hc.2]
    exact h2 p hp
  · rw [lk _ (by omega) (fun i hi x xa xb => by omega)]
    exact (h5 q hq).1
  · rw [lk _ (by omega) (fun i hi x xa xb => by omega)]
    exact (h5 q hq).2
section MDM
variable {e F A C gv : Nat → Int32} {l z : Bool} {o t : Nat} {v w : Int32}
theorem md.vals (h : md e F A C l o) (hi : s_inv t e) : ∀ k, k < s_lm e → ∃ x, x ≤ 9999 ∧ A k = nI x := fun k hk => by
  obtain ⟨x, x1, x2⟩ := hi.2.2.1 k hk 0 (by rw [h.cm]; decide)
  exact ⟨x, x1, (h.lm.2.2 k hk).1.symm.trans x2⟩
theorem md.ana (h : md e F A C l o) (hi : s_inv t e) : md (s_ana e) (upd (e_ana F A (s_lm e)) 7 (F 7 + 1)) A C l o := by
  have h1 := h.md0.look (h.vals hi)
  unfold s_ana
  rw [h.cm, h.g7]
  exact h1.put (k := 7) (by decide) (by decide)
theorem md.ins (h : md e F A C l o) (hl : s_lm e < 40) : md (s_ins e v w 0 0 0) (upd F 2 (F 2 + 1)) (upd A (s_lm e) v) (upd C (s_lm e) w) l o := by
  obtain ⟨h1, h2, -⟩ := id h
  obtain ⟨h4, -, h5⟩ := h.lm
  obtain ⟨v0, v1, -⟩ := s_ins_v (e := e) (a := v) (b := w) (c := 0) (d := 0) (f := 0)
  have so : ∀ k, k ≠ 1 → (k < 75 + 5 * s_lm e ∨ 75 + 5 * s_lm e + 5 ≤ k) → s_ins e v w 0 0 0 k = e k := fun k k1 k2 => s_ins_o k1 k2
  refine ⟨fun k k2 k21 => ?_, fun p hp => ?_, s_lm e + 1, by omega, by rw [updI_eq, h4]; exact nI_add _ 1, fun q hq => ?_⟩
  · by_cases c2 : k = 2
    · subst c2
      rw [updI_eq, ← h.g2]
      exact updI_eq
    · have c3 := cl_lo k21
      rw [updI_ne c2, so _ (cl_inj k2 k21 (k := 2) (by omega) (by omega) c2) (by omega)]
      exact h1 k k2 k21
  · have c3 := fx_lo hp
    rw [so _ (fx_cl hp (k := 2) (by omega) (by omega)) (by omega)]
    exact h2 p hp
  · by_cases c : q = s_lm e
    · subst c
      rw [updI_eq, updI_eq]
      exact ⟨v0, v1⟩
    · rw [updI_ne c, updI_ne c, so _ (by omega) (by omega), so _ (by omega) (by omega)]
      exact h5 q (by omega)
def e_shf (A : Nat → Int32) (g n : Nat) : Nat → Int32 := fun k => if g ≤ k ∧ k < n then A (k + 1) else A k
theorem md.del (h : md e F A C l o) {g : Nat} (hg : g < s_lm e) : md (s_del e g) (upd F 2 (nI (s_lm e - 1))) (e_shf A g (s_lm e - 1)) (e_shf C g (s_lm e - 1)) l o := by
  obtain ⟨h1, h2, -⟩ := id h
  obtain ⟨h4, h40, h5⟩ := h.lm
  have so : ∀ k, k ≠ 1 → (k < 75 ∨ 275 ≤ k) → s_del e g k = e k := fun k k1 k2 => s_del_o k1 hg h40 k2
  refine ⟨fun k k2 k21 => ?_, fun p hp => ?_, s_lm e - 1, by omega, updI_eq, fun q hq => ?_⟩
  · by_cases c2 : k = 2
    · subst c2
      rw [updI_eq]
      exact s_del_1
    · rw [updI_ne c2, so _ (cl_inj k2 k21 (k := 2) (by omega) (by omega) c2) (cl_lo k21)]
      exact h1 k k2 k21
  · rw [so _ (fx_cl hp (k := 2) (by omega) (by omega)) (fx_lo hp)]
    exact h2 p hp
  · have d0 := s_del_v (e := e) hg hq (b := 0) (by omega)
    have d1 := s_del_v (e := e) hg hq (b := 1) (by omega)
    unfold e_shf
    by_cases c : g ≤ q
    · rw [if_pos c] at d0 d1
      rw [if_pos ⟨c, hq⟩, if_pos ⟨c, hq⟩]
      exact ⟨d0.trans (h5 (q + 1) (by omega)).1, d1.trans (h5 (q + 1) (by omega)).2⟩
    · rw [if_neg c] at d0 d1
      rw [if_neg (fun x => c x.1), if_neg (fun x => c x.1)]
      exact ⟨d0.trans (h5 q (by omega)).1, d1.trans (h5 q (by omega)).2⟩
theorem md.rws (h : md e F A C l o) : ∀ n, n ≤ s_lm e → s_rws e gv 0 n = s_me (e_hit A C (gv 0) l o) n
  | 0, _ => rfl
  | n + 1, hn => by
    show s_rws e gv 0 n ||| (bif s_find e gv 0 n then s_bit n else 0) = s_me _ n ||| (bif e_hit A C (gv 0) l o n then s_bit n else 0)
    rw [h.rws n (by omega), h.find (by omega)]
theorem md.cnt (h : md e F A C l o) : ∀ n, n ≤ s_lm e → s_cnt e gv 0 n = s_ce (e_hit A C (gv 0) l o) n
  | 0, _ => rfl
  | n + 1, hn => by
    show s_cnt e gv 0 n + (bif s_find e gv 0 n then 1 else 0) = s_ce _ n + (bif e_hit A C (gv 0) l o n then 1 else 0)
    rw [h.cnt n (by omega), h.find (by omega)]
/-- what an estimate divides by -/
theorem md.div (h : md e F A C l o) (hi : s_inv t e) : ¬ F 3 = 0 → ¬ F 4 = 0 ∧ ¬ F 6 - F 5 + 1 = 0 := by
  obtain ⟨-, -, ⟨u, u1, u2, u3⟩, a, b, a1, a2, a3, a4⟩ := hi.1.col 0 (by rw [h.cm]; decide)
  intro c
  have g8 : ¬ e 8 = 0 := by rw [h.g3]; exact c
  have g4 : F 4 = nI u := h.g4.symm.trans u2
  have g5 : F 5 = nI a := h.g5.symm.trans a3
  have g6 : F 6 = nI b := h.g6.symm.trans a4
  have g6' : F 6 = F 5 + nI (b - a) := by
    rw [g5, g6, nI_add]
    exact congrArg nI (by omega)
  constructor
  · intro q
    rw [g4] at q
    have := (nI_eq (b := 0) (Nat.lt_of_le_of_lt u1 (by decide)) (by decide)).mp q
    have := u3 g8
    omega
  · intro q
    rw [g6', Int32.add_comm (F 5), Int32.add_sub_cancel] at q
    have q2 : nI (b - a + 1) = nI 0 := (nI_add (b - a) 1).symm.trans q
    have := (nI_eq (by omega) (by decide)).mp q2
    omega
/-- what the class tells, in the law's numbers -/
theorem md.told {B : XH} {c : Nat → Int32} {ob : Nat} (h : md e F A C l o) (hl : L_lv B t e c ob) : (s_stav c 0 0 = F 12 ∧ s_stav c 0 1 = F 13 ∧ s_stav c 0 2 = F 14 ∧ s_stav c 0 3 = F 16 ∧ s_stav c 0 4 = (if F 18 = -2 then 0 else if F 20 = F 7 then 1 else 2) ∧ s_stav c 0 5 = F 17) ∧ (s_st c 0 (21 + 0) = F 15 ∧ s_st c 0 (21 + 1) = 100 ∧ s_st c 0 14 = F 18) ∧ (s_cntv e c 3 = F 7 ∧ s_cntv e c 8 = F 3 ∧ s_cntv e c 1 = F 2) ∧ s_colv e c 0 2 = F 4 ∧ s_colv e c 0 3 = F 5 ∧ s_colv e c 0 4 = F 6 := by
  have hwf := hl.1.1
  have hr := hl.2.1
  have hs : (0 : Int32) ≤ 0 ∧ (0 : Int32) < nI (s_sm e) := by rw [h.sm]; decide
  have hc : (0 : Int32) ≤ 0 ∧ (0 : Int32) < e 0 := by rw [h.f0]; decide
  have st : ∀ k y, k ≤ 5 → y = nI k → s_stav c 0 y = s_told e 0 k := fun k y hk hy => by
    have q := ga_statement1 hwf hr hs (y := y) ⟨k, hk, hy⟩
    have ey : n_ y = k := n_of hy (by omega)
    unfold a_statement at q
    rw [if_pos (by rw [h.f2]; decide), if_pos (by rw [hy]; exact ⟨nI_ge0 (by omega), (nI_leI (b := 5) (by omega) (by decide)).mpr hk⟩), ey] at q
    exact (congrArg Prod.snd q).symm
  have ct : ∀ k y, k ≤ 8 → y = nI k → s_cntv e c y = e k := fun k y hk hy => by
    have q := ga_count1 hwf hr (x := y) ⟨k, hk, hy⟩
    have ey : n_ y = k := n_of hy (by omega)
    unfold a_count at q
    rw [if_pos (by rw [hy]; exact ⟨nI_ge0 (by omega), (nI_leI (b := 8) (by omega) (by decide)).mpr hk⟩), ey] at q
    exact (congrArg Prod.snd q).symm
  have co : ∀ k y, k ≤ 4 → y = nI k → s_colv e c 0 y = s_col e 0 (8 + k) := fun k y hk hy => by
    have q := ga_column1 hwf hr hc (y := y) ⟨k, hk, hy⟩
    have ey : n_ y = k := n_of hy (by omega)
    unfold a_column at q
    rw [if_pos (by rw [h.f0]; decide), if_pos (by rw [hy]; exact ⟨nI_ge0 (by omega), (nI_leI (b := 4) (by omega) (by decide)).mpr hk⟩), ey] at q
    exact (congrArg Prod.snd q).symm
  have ln : ∀ k y, k < 2 → y = nI k → s_st c 0 (21 + k) = s_st e 0 (21 + k) := fun k y hk hy => by
    have q := ga_learned1 hwf hr hs (y := y) (by rw [hy, h.f0]; exact ⟨nI_ge0 (by omega), (nI_ltI (b := 2) (by omega) (by decide)).mpr hk⟩)
    have ey : n_ y = k := n_of hy (by omega)
    unfold a_learned at q
    rw [if_pos (by rw [h.f2]; decide), if_pos (by rw [hy, h.f0]; exact ⟨nI_ge0 (by omega), (nI_leI (b := 1) (by omega) (by decide)).mpr (by omega)⟩), ey] at q
    exact (congrArg Prod.snd q).symm
  have kp : s_st c 0 14 = s_st e 0 14 := by
    have q := ga_kept1 hwf hr hs
    unfold a_kept at q
    rw [if_pos (by rw [h.f2]; decide)] at q
    exact (congrArg Prod.snd q).symm
  refine ⟨⟨(st 0 0 (by decide) rfl).trans h.g12, (st 1 1 (by decide) rfl).trans h.g13, (st 2 2 (by decide) rfl).trans h.g14, (st 3 3 (by decide) rfl).trans h.g16, (st 4 4 (by decide) rfl).trans ?_, (st 5 5 (by decide) rfl).trans h.g17⟩, ⟨(ln 0 0 (by decide) rfl).trans h.g15, (ln 1 1 (by decide) rfl).trans h.f297, kp.trans h.g18⟩, ⟨(ct 3 3 (by decide) rfl).trans h.g7, (ct 8 8 (by decide) rfl).trans h.g3, (ct 1 1 (by decide) rfl).trans h.g2⟩, (co 2 2 (by decide) rfl).trans h.g4, (co 3 3 (by decide) rfl).trans h.g5, (co 4 4 (by decide) rfl).trans h.g6⟩
  show s_state e 0 = _
  unfold s_state
  rw [show s_st e 0 14 = F 18 from h.g18, show s_st e 0 16 = F 20 from h.g20, h.g7]
end MDM
