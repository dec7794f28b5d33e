/-! ===== what the class answers is what the reference answers ===== -/
theorem g_rng {x y : Int32} {m : Nat} (hm : y = nI m) (hb : m < 2147483648) : ((0 : Int32) ≤ x ∧ x < y) ↔ ((0 : Int32) ≤ x ∧ x ≤ y - 1) := by
  constructor
  · intro h
    obtain ⟨j, h1, h2⟩ := m_rngl hm hb h
    refine ⟨h.1, ?_⟩
    rw [h2, hm, show (1 : Int32) = nI 1 from rfl, pk_sub (by omega)]
    exact (nI_leI (by omega) (by omega)).mpr (by omega)
  · intro h
    obtain ⟨j, h1, h2⟩ := m_rng hm hb h
    refine ⟨h.1, ?_⟩
    rw [h2, hm]
    exact (nI_ltI (by omega) (by omega)).mpr h1
theorem g_to8 {n : Nat} {x y : Int32} (hy : y = nI n) (hn : n < 2147483648) : s_to8 n x ↔ ((0 : Int32) ≤ x ∧ x ≤ y) := by
  constructor
  · rintro ⟨k, k1, k2⟩
    rw [k2, hy]
    exact ⟨nI_ge0 (by omega), (nI_leI (by omega) (by omega)).mpr k1⟩
  · intro h
    obtain ⟨j, h1, h2⟩ := m_rngc hy hn h
    exact ⟨j, h1, h2⟩
theorem g_st {e : Nat → Int32} {x : Int32} (hwf : s_wf e) : ((0 : Int32) ≤ x ∧ x < nI (s_sm e)) ↔ ((0 : Int32) ≤ x ∧ x ≤ e 2 - 1) := by
  have h6 := hwf.smE.2
  rw [← hwf.smE.1]
  exact g_rng hwf.smE.1 (by omega)
theorem g_cm {e : Nat → Int32} {x : Int32} (hwf : s_wf e) : ((0 : Int32) ≤ x ∧ x < e 0) ↔ ((0 : Int32) ≤ x ∧ x ≤ e 0 - 1) := by
  have h6 := hwf.cmE.2
  exact g_rng hwf.cmE.1 (by omega)
theorem g_pl {e : Nat → Int32} {x : Int32} (hwf : s_wf e) : ((-1 : Int32) ≤ x ∧ x < e 0) ↔ ((-1 : Int32) ≤ x ∧ x ≤ e 0 - 1) := by
  have h6 := hwf.cmE.2
  have h0 := hwf.cmE.1
  have e1 : (e 0 - 1).toInt = (s_cm e : Int) - 1 := by
    rw [h0, show (1 : Int32) = nI 1 from rfl, pk_sub_toInt (by omega) (by omega)]
    rfl
  have e2 : (e 0).toInt = (s_cm e : Int) := by
    rw [h0]
    exact nI_toInt (by omega)
  rw [Int32.lt_iff_toInt_lt, Int32.le_iff_toInt_le (x := x), e1, e2]
  constructor
  · rintro ⟨a, b⟩; exact ⟨a, by omega⟩
  · rintro ⟨a, b⟩; exact ⟨a, by omega⟩
/-- an index that is in range -/
theorem g_ix {x : Int32} {m : Nat} (hb : m < 2147483648) (h : (0 : Int32) ≤ x ∧ x < nI m) : n_ x < m := by
  obtain ⟨j, h1, h2⟩ := m_rngl rfl hb h
  rw [h2, n_nI (by omega)]
  exact h1
section AG
variable {e c : Nat → Int32} {x y v0 v1 v2 v3 v4 : Int32}
theorem ga_count1 (hwf : s_wf e) (hr : s_rel e c) (h : s_to8 8 x) : a_count e x = (0, s_cntv e c x) := by
  unfold a_count
  rw [if_pos ((g_to8 (show (8 : Int32) = nI 8 from rfl) (by omega)).mp h)]
  obtain ⟨k, k1, k2⟩ := h
  have hn : n_ x = k := n_of k2 (by omega)
  rw [hn, k2]
  obtain ⟨⟨r1, r3, r8⟩, -⟩ := hr
  rcases (show k = 0 ∨ k = 1 ∨ k = 2 ∨ k = 3 ∨ k = 4 ∨ k = 5 ∨ k = 6 ∨ k = 7 ∨ k = 8 by omega) with q | q | q | q | q | q | q | q | q
  · subst q; rfl
  · subst q; exact congrArg (Prod.mk 0) r1
  · subst q; exact congrArg (Prod.mk 0) hwf.smE.1
  · subst q; exact congrArg (Prod.mk 0) r3
  · subst q; rfl
  · subst q; rfl
  · subst q; rfl
  · subst q; rfl
  · subst q; exact congrArg (Prod.mk 0) r8
theorem ga_column1 (hwf : s_wf e) (hr : s_rel e c) (h1 : (0 : Int32) ≤ x ∧ x < e 0) (h : s_to8 4 y) : a_column e x y = (0, s_colv e c (n_ x) y) := by
  unfold a_column
  rw [if_pos ((g_cm hwf).mp h1), if_pos ((g_to8 (show (4 : Int32) = nI 4 from rfl) (by omega)).mp h)]
  have hm5 := hwf.cmE.2
  have hj : n_ x < s_cm e := g_ix (by omega) (by rw [← hwf.cmE.1]; exact h1)
  obtain ⟨k, k1, k2⟩ := h
  have hn : n_ y = k := n_of k2 (by omega)
  rw [hn, k2]
  have hc := hr.2.1 (n_ x) hj
  rcases (show k = 0 ∨ k = 1 ∨ k = 2 ∨ k = 3 ∨ k = 4 by omega) with q | q | q | q | q
  · subst q; rfl
  · subst q
    have h9 := hc 9 (by omega) (by omega)
    rcases (hwf.col (n_ x) hj).2.1 with h | h
    · have : s_col c (n_ x) 9 = 0 := h9.symm.trans h
      show (0, s_col e (n_ x) 9) = (0, if s_col c (n_ x) 9 = 0 then 0 else 1)
      rw [if_pos this, h]
    · have h3 : ¬ s_col c (n_ x) 9 = 0 := fun q => by rw [h9, q] at h; exact absurd h (by decide)
      show (0, s_col e (n_ x) 9) = (0, if s_col c (n_ x) 9 = 0 then 0 else 1)
      rw [if_neg h3, h]
  · subst q; exact congrArg (Prod.mk 0) (hc 10 (by omega) (by omega))
  · subst q; exact congrArg (Prod.mk 0) (hc 11 (by omega) (by omega))
  · subst q; exact congrArg (Prod.mk 0) (hc 12 (by omega) (by omega))
theorem ga_hole1 (hwf : s_wf e) (h1 : (0 : Int32) ≤ x ∧ x < nI (s_sm e)) (h : (0 : Int32) ≤ y ∧ y < 4) : a_hole e x y = (0, s_st e (n_ x) (17 + n_ y)) := by
  unfold a_hole
  rw [if_pos ((g_st hwf).mp h1), if_pos (show (0 : Int32) ≤ y ∧ y ≤ 3 from (g_rng (show (4 : Int32) = nI 4 from rfl) (by omega)).mp h)]
theorem ga_statement1 (hwf : s_wf e) (hr : s_rel e c) (h1 : (0 : Int32) ≤ x ∧ x < nI (s_sm e)) (h : s_to8 5 y) : a_statement e x y = (0, s_stav c (n_ x) y) := by
  unfold a_statement
  rw [if_pos ((g_st hwf).mp h1), if_pos ((g_to8 (show (5 : Int32) = nI 5 from rfl) (by omega)).mp h)]
  have hs6 := hwf.smE.2
  have hs : n_ x < s_sm e := g_ix (by omega) h1
  obtain ⟨k, k1, k2⟩ := h
  have hn : n_ y = k := n_of k2 (by omega)
  rw [hn, k2]
  have hc := hr.2.2.2 (n_ x) hs
  rcases (show k = 0 ∨ k = 1 ∨ k = 2 ∨ k = 3 ∨ k = 4 ∨ k = 5 by omega) with q | q | q | q | q | q
  · subst q; exact congrArg (Prod.mk 0) (hc 8 (by omega))
  · subst q; exact congrArg (Prod.mk 0) (hc 9 (by omega))
  · subst q; exact congrArg (Prod.mk 0) (hc 10 (by omega))
  · subst q; exact congrArg (Prod.mk 0) (hc 11 (by omega))
  · subst q
    show (0, s_state e (n_ x)) = (0, if s_st c (n_ x) 14 = -2 then 0 else if s_st c (n_ x) 16 = c 3 then 1 else 2)
    unfold s_state
    rw [hc 14 (by omega), hc 16 (by omega), hr.1.2.1]
  · subst q; exact congrArg (Prod.mk 0) (hc 13 (by omega))
theorem ga_learned1 (hwf : s_wf e) (hr : s_rel e c) (h1 : (0 : Int32) ≤ x ∧ x < nI (s_sm e)) (h : (0 : Int32) ≤ y ∧ y < e 0) : a_learned e x y = (0, s_st c (n_ x) (21 + n_ y)) := by
  unfold a_learned
  rw [if_pos ((g_st hwf).mp h1), if_pos ((g_cm hwf).mp h)]
  have hm5 := hwf.cmE.2
  have hs6 := hwf.smE.2
  have hj : n_ y < s_cm e := g_ix (by omega) (by rw [← hwf.cmE.1]; exact h)
  have hs : n_ x < s_sm e := g_ix (by omega) h1
  exact congrArg (Prod.mk 0) (hr.2.2.2 _ hs _ (by omega))
theorem ga_kept1 (hwf : s_wf e) (hr : s_rel e c) (h1 : (0 : Int32) ≤ x ∧ x < nI (s_sm e)) : a_kept e x = (0, s_st c (n_ x) 14) := by
  unfold a_kept
  rw [if_pos ((g_st hwf).mp h1)]
  have hs6 := hwf.smE.2
  have hs : n_ x < s_sm e := g_ix (by omega) h1
  exact congrArg (Prod.mk 0) (hr.2.2.2 _ hs _ (by omega))
theorem ga_gen1 {gv : Nat → Int32} (hwf : s_wf e) (h1 : (0 : Int32) ≤ x ∧ x < nI (s_sm e)) (h : (-1 : Int32) ≤ y ∧ y < e 0) : a_genericCost e gv x y = (0, s_cost e gv (n_ x) y false) := (if_pos ((g_st hwf).mp h1)).trans (if_pos ((g_pl hwf).mp h))
/-- values of holes -/
theorem g_isv {t v : Int32} (ht : s_ht t) : ((t = -1 ∧ v = 0) ∨ (¬ t = -1 ∧ (0 : Int32) ≤ v ∧ v ≤ s_most t)) ↔ ((0 : Int32) ≤ v ∧ v ≤ s_grt t) := by
  rcases ht with h | h | h | h
  · rw [h]
    constructor
    · rintro (⟨-, q⟩ | ⟨q, -⟩)
      · rw [q]; exact ⟨by decide, by decide⟩
      · exact absurd rfl q
    · intro q
      exact Or.inl ⟨rfl, Int32.le_antisymm q.2 q.1⟩
  · rw [h]
    exact ⟨fun q => q.elim (fun a => absurd a.1 (by decide)) (fun a => a.2), fun q => Or.inr ⟨by decide, q⟩⟩
  · rw [h]
    exact ⟨fun q => q.elim (fun a => absurd a.1 (by decide)) (fun a => a.2), fun q => Or.inr ⟨by decide, q⟩⟩
  · rw [h]
    exact ⟨fun q => q.elim (fun a => absurd a.1 (by decide)) (fun a => a.2), fun q => Or.inr ⟨by decide, q⟩⟩
theorem g_vok {s : Nat} (h : s_hts e s) : s_vgr e s v0 v1 v2 v3 ↔ s_vok e s v0 v1 v2 v3 := by
  have h0 := g_isv (v := v0) (h 0 (by omega))
  have h1 := g_isv (v := v1) (h 1 (by omega))
  have h2 := g_isv (v := v2) (h 2 (by omega))
  have h3 := g_isv (v := v3) (h 3 (by omega))
  constructor
  · rintro ⟨a, b, d, f⟩
    exact ⟨h0.mpr a, h1.mpr b, h2.mpr d, h3.mpr f⟩
  · rintro ⟨a, b, d, f⟩
    exact ⟨h0.mp a, h1.mp b, h2.mp d, h3.mp f⟩
theorem g_hts {t : Nat} (hi : s_inv t e) (h1 : (0 : Int32) ≤ x ∧ x < nI (s_sm e)) : s_hts e (n_ x) := by
  have hs6 := hi.1.smE.2
  exact (hi.2.2.2 _ (g_ix (by omega) h1)).1.1
theorem ga_ifv1 {t : Nat} {α : Type} {z v : α} (hi : s_inv t e) (h1 : (0 : Int32) ≤ x ∧ x < nI (s_sm e)) (h : s_vgr e (n_ x) v0 v1 v2 v3) : a_ifv e x v0 v1 v2 v3 z v = (0, v) := (if_pos ((g_st hi.1).mp h1)).trans (if_pos ((g_vok (g_hts hi h1)).mp h))
theorem ga_spc1 {t : Nat} (hi : s_inv t e) (h1 : (0 : Int32) ≤ x ∧ x < nI (s_sm e)) (h : s_vgr e (n_ x) v0 v1 v2 v3) (h2 : (-1 : Int32) ≤ y ∧ y < e 0) : a_specialCost e x y v0 v1 v2 v3 = (0, s_cost e (s_gv v0 v1 v2 v3) (n_ x) y true) := (if_pos ((g_st hi.1).mp h1)).trans ((if_pos ((g_pl hi.1).mp h2)).trans (if_pos ((g_vok (g_hts hi h1)).mp h)))
/-- the plan that a run would use -/
theorem ga_would {gv : Nat → Int32} {s : Nat} : s_ckv e gv s = s_would e gv s := by
  have e1 : s_gen (s_mkg e gv s) s (s_st (s_mkg e gv s) s 15) ↔ s_gen e s (s_wcost e gv s) := by
    by_cases h : s_fresh e s
    · rw [show s_mkg e gv s = e from if_pos h, show s_wcost e gv s = s_st e s 15 from if_pos h]
    · have m9 : s_st (s_mkg e gv s) s 9 = s_st e s 9 := by
        rw [show s_mkg e gv s = _ from if_neg h]
        show upd _ _ _ _ = _
        rw [updI_ne (by omega), updI_ne (by omega), updI_ne (by omega), updI_ne (by omega)]
      have m10 : s_st (s_mkg e gv s) s 10 = s_st e s 10 := by
        rw [show s_mkg e gv s = _ from if_neg h]
        show upd _ _ _ _ = _
        rw [updI_ne (by omega), updI_ne (by omega), updI_ne (by omega), updI_ne (by omega)]
      have m15 : s_st (s_mkg e gv s) s 15 = s_wcost e gv s := by
        rw [show s_mkg e gv s = _ from if_neg h, show s_wcost e gv s = _ from if_neg h, show s_wplan e gv s = _ from if_neg h]
        show upd _ _ _ _ = _
        rw [updI_ne (by omega), updI_ne (by omega), updI_eq]
      rw [m15]
      unfold s_gen
      rw [m9, m10]
  have m14 : s_st (s_mkg e gv s) s 14 = s_wplan e gv s := by
    by_cases h : s_fresh e s
    · rw [show s_mkg e gv s = e from if_pos h, show s_wplan e gv s = s_st e s 14 from if_pos h]
    · rw [show s_mkg e gv s = _ from if_neg h, show s_wplan e gv s = _ from if_neg h]
      show upd _ _ _ _ = _
      rw [updI_ne (by omega), updI_ne (by omega), updI_ne (by omega), updI_eq]
  unfold s_ckv s_would
  by_cases h1 : s_st e s 8 < e 7
  · rw [if_pos h1, if_neg (fun q => q.1 h1)]
  · rw [if_neg h1]
    by_cases h2 : s_gen e s (s_wcost e gv s)
    · rw [if_pos h2, if_pos ⟨h1, e1.mpr h2⟩, m14]
    · rw [if_neg h2, if_neg (fun q => h2 (e1.mp q.2))]
/-- a cell of a new row -/
theorem g_icell {t j : Nat} {v : Int32} (hi : s_inv t e) : ((0 : Int32) ≤ v ∧ v ≤ s_grt (s_ty e j)) ↔ s_icell e j v := by
  unfold s_ty
  by_cases h : j < s_cm e
  · rw [if_pos h]
    have ht : s_ht (s_col e j 8) := by
      rcases (hi.1.col j h).1 with q | q | q
      · exact Or.inr (Or.inl q)
      · exact Or.inr (Or.inr (Or.inl q))
      · exact Or.inr (Or.inr (Or.inr q))
    have h1 : ¬ s_col e j 8 = -1 := by
      rcases (hi.1.col j h).1 with q | q | q <;> rw [q] <;> decide
    constructor
    · intro q
      exact Or.inl ⟨h, ((g_isv ht).mpr q).elim (fun a => absurd a.1 h1) (fun a => a.2)⟩
    · rintro (⟨-, q⟩ | ⟨q, -⟩)
      · exact (g_isv ht).mp (Or.inr ⟨h1, q⟩)
      · exact absurd h q
  · rw [if_neg h]
    constructor
    · intro q
      exact Or.inr ⟨h, Int32.le_antisymm q.2 q.1⟩
    · rintro (⟨q, -⟩ | ⟨-, q⟩)
      · exact absurd q h
      · rw [q]; exact ⟨by decide, by decide⟩
theorem g_ivr {t : Nat} (hi : s_inv t e) : s_ivr e v0 v1 v2 v3 v4 ↔ s_icells e v0 v1 v2 v3 v4 := by
  constructor
  · rintro ⟨a, b, d, f, g⟩
    exact ⟨(g_icell hi).mp a, (g_icell hi).mp b, (g_icell hi).mp d, (g_icell hi).mp f, (g_icell hi).mp g⟩
  · rintro ⟨a, b, d, f, g⟩
    exact ⟨(g_icell hi).mpr a, (g_icell hi).mpr b, (g_icell hi).mpr d, (g_icell hi).mpr f, (g_icell hi).mpr g⟩
theorem g_room {t : Nat} (hi : s_inv t e) (hr : s_rel e c) : (¬ e 0 = 0 ∧ c 1 < 40) ↔ ((0 : Int32) < e 0 ∧ e 1 < 40) := by
  have h5 := hi.1.cmE.2
  have h0 := hi.1.cmE.1
  rw [hr.1.1]
  have : ¬ e 0 = 0 ↔ (0 : Int32) < e 0 := by
    rw [h0, show (0 : Int32) = nI 0 from rfl, nI_ltI (by omega) (by omega), nI_eq (by omega) (by omega)]
    omega
  rw [this]
end AG
