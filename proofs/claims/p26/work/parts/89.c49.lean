/-! ===== conditions: lists that grow beside the reader ===== -/
/-- a list among the cells beside -/
def y_lb (B : XH) (a : Nat) (m : Int32) (el n : Nat) (p : Nat → Nat) : Prop := s_out a ∧ B a = some (.inl (0, lV m el n)) ∧ ((n = 0 ∧ el = 2) ∨ ∃ cap f, s_out el ∧ 64 ≤ el ∧ B el = some (.inr (true, .object "java/lang/Object", cap, f)) ∧ (10 ≤ cap ∧ n ≤ cap ∧ 2 * cap ≤ 3 * n + 20) ∧ ∀ j, j < n → f j = .ref (p j) ∧ s_out (p j) ∧ y_ob B (p j))
section YLB
variable {B B' : XH} {J bf K tk ts : Nat → Int32} {tl : Int64} {tv : Nat → Int64} {su : Nat → Nat} {D : Nat → Nat → Int32} {ρ : Nat → Nat} {i : Nat} {er ea : Int32} {sv ty hv : Nat → Int32} {nm : Nat → Int64} {a el n v : Nat} {m : Int32} {p : Nat → Nat}
theorem rc_B (h : y_ds ρ B) {k : Nat} {c : XC} (ho : s_out k) (hk : B k = some c) : cset (rset B ρ i er ea sv nm ty hv) J bf K tk ts tl tv su D k = some c := c_B ho (rs_B h hk)
theorem y_ob_c (h : y_ds ρ B) {k : Nat} (ho : s_out k) (hk : y_ob B k) : y_ob (cset (rset B ρ i er ea sv nm ty hv) J bf K tk ts tl tv su D) k := by
  obtain ⟨ci, V, C, T, nf, h1, h2⟩ := hk
  exact ⟨ci, V, C, T, nf, rc_B h ho h1, h2⟩
theorem y_lb.s (h : y_ds ρ B) (hl : y_lb B a m el n p) : y_ls (cset (rset B ρ i er ea sv nm ty hv) J bf K tk ts tl tv su D) a m el n p := by
  obtain ⟨h1, h2, h3⟩ := hl
  refine ⟨rc_B h h1 h2, ?_⟩
  rcases h3 with g | ⟨cap, f, g1, g2, g3, g4, g5⟩
  · exact Or.inl g
  · exact Or.inr ⟨cap, f, g2, rc_B h g1 g3, g4, fun j hj => ⟨(g5 j hj).1, y_ob_c h (g5 j hj).2.1 (g5 j hj).2.2⟩⟩
theorem y_lb.l (hl : y_lb B a m el n p) (hn : n < 1000000) : l_at B a n p := by
  obtain ⟨h1, h2, h3⟩ := hl
  refine ⟨h1, by omega, m, el, h2, fun h0 => ?_⟩
  rcases h3 with g | ⟨cap, f, g1, g2, g3, g4, g5⟩
  · omega
  · exact ⟨g1, true, cap, f, g3, ⟨by omega, by omega⟩, fun j hj => (g5 j hj).1⟩
theorem y_none2 (h : y_ds ρ B) (h0 : B 0 = none) : cset (rset B ρ i er ea sv nm ty hv) J bf K tk ts tl tv su D 0 = none := by
  refine y_none0 ?_
  rw [rs_out (fun a ha e => by have := (h.2 a ha).2.2; omega)]
  exact h0
theorem y_ds.set (h : y_ds ρ B) {q : Nat} {c : XC} (hq : ∀ a, a < 5 → ¬ q = ρ a) : y_ds ρ (x_set B q c) := ⟨h.1, fun a ha => ⟨(h.2 a ha).1, by rw [x_set_ne (fun e => hq a ha e.symm)]; exact (h.2 a ha).2.1, (h.2 a ha).2.2⟩⟩
/-- what a new cell is -/
theorem rc_new (hq : cset (rset B ρ i er ea sv nm ty hv) J bf K tk ts tl tv su D v = none) : s_out v ∧ B v = none ∧ (∀ a, a < 5 → ¬ v = ρ a) ∧ ∀ c, x_set (cset (rset B ρ i er ea sv nm ty hv) J bf K tk ts tl tv su D) v c = cset (rset (x_set B v c) ρ i er ea sv nm ty hv) J bf K tk ts tl tv su D := by
  obtain ⟨h1, h2⟩ := y_free hq
  obtain ⟨h3, h4⟩ := rs_none h2
  exact ⟨h1, h4, h3, fun c => by rw [y_set h1, rs_set h3]⟩
theorem rc_set (h : y_ds ρ B) {c c' : XC} (ho : s_out v) (hv' : B v = some c) : x_set (cset (rset B ρ i er ea sv nm ty hv) J bf K tk ts tl tv su D) v c' = cset (rset (x_set B v c') ρ i er ea sv nm ty hv) J bf K tk ts tl tv su D := by rw [y_set ho, rs_set (h.nB hv')]
/-- all but these cells are kept -/
def y_kp (B B' : XH) (a el : Nat) : Prop := ∀ k c, k ≠ a → k ≠ el → B k = some c → B' k = some c
def updF (p : Nat → Nat) (n v : Nat) : Nat → Nat := fun j => if j = n then v else p j
theorem y_ob_kp {k : Nat} (h : y_kp B B' a el) (ha : ∃ V, B' a = some (.inl (0, V))) (ha0 : ∃ V, B a = some (.inl (0, V))) (hel : ∀ V, ¬ B el = some (.inl V)) (hk : y_ob B k) : y_ob B' k := by
  obtain ⟨ci, V, C, T, nf, h1, h2, h3⟩ := hk
  by_cases e : k = a
  · subst e
    obtain ⟨V1, g1⟩ := ha
    obtain ⟨V0, g0⟩ := ha0
    rw [h1] at g0
    cases g0
    exact ⟨0, V1, C, T, nf, g1, h2, h3⟩
  · exact ⟨ci, V, C, T, nf, h k _ e (fun q => hel _ (by rw [← q]; exact h1)) h1, h2, h3⟩
/-- one more in a list beside the reader -/
theorem y_addB {N' : XH} (h : y_ds ρ B) (h0 : B 0 = none) (h2 : B 2 = none) (hl : y_lb B a m el n p) (hv1 : s_out v) (hv2 : y_ob B v) (hA : y_ad (cset (rset B ρ i er ea sv nm ty hv) J bf K tk ts tl tv su D) a m el n p v N') : ∃ B' el', N' = cset (rset B' ρ i er ea sv nm ty hv) J bf K tk ts tl tv su D ∧ y_lb B' a (m + 1) el' (n + 1) (updF p n v) ∧ y_ds ρ B' ∧ (B' 0 = none ∧ B' 2 = none) ∧ y_kp B B' a el ∧ (el' = el ∧ ¬ el = 2 ∨ B el' = none) ∧ 64 ≤ el' ∧ ∀ k c, B' k = some c → k = el' ∨ ∃ c', B k = some c' := by
  obtain ⟨l1, l2, l3⟩ := id hl
  obtain ⟨el', cap, f, g1, g2, rfl, g4, g5, g6⟩ := hA
  have haρ := h.nB l2
  have ha0 : ¬ a = 0 := fun e => by rw [e, h0] at l2; cases l2
  have hE : s_out el' ∧ (∀ b, b < 5 → ¬ el' = ρ b) ∧ (el' = el ∧ ¬ el = 2 ∨ B el' = none) ∧ ¬ el' = a ∧ ∀ V, ¬ B el' = some (.inl V) := by
    rcases g1 with ⟨e1, e2⟩ | g1
    · subst e1
      rcases l3 with ⟨-, q⟩ | ⟨cap0, f0, q1, q2, q3, q4⟩
      · exact absurd q e2
      · exact ⟨q1, h.nB q3, Or.inl ⟨rfl, e2⟩, (fun e => by rw [e, l2] at q3; cases q3), (fun V e => by rw [q3] at e; cases e)⟩
    · obtain ⟨q1, q2, q3, -⟩ := rc_new g1
      exact ⟨q1, q3, Or.inr q2, (fun e => by rw [e, l2] at q2; cases q2), (fun V e => by rw [q2] at e; cases e)⟩
  obtain ⟨e1, e2, e3, e4, e5⟩ := hE
  have hkp : y_kp B (x_set (x_set B el' (.inr (true, .object "java/lang/Object", cap, f))) a (.inl (0, lV (m + 1) el' (n + 1)))) a el := fun k c k1 k2 hk => by
    rw [x_set_ne k1]
    rcases e3 with ⟨q, -⟩ | q
    · rw [x_set_ne (by rw [q]; exact k2)]; exact hk
    · rw [x_set_ne (fun z => by rw [z, q] at hk; cases hk)]; exact hk
  have hel : ∀ V, ¬ B el = some (.inl V) := fun V e => by
    rcases l3 with ⟨-, q⟩ | ⟨cap0, f0, q1, q2, q3, q4⟩
    · rw [q, h2] at e; cases e
    · rw [q3] at e; cases e
  have hob : ∀ k, y_ob B k → y_ob (x_set (x_set B el' (.inr (true, .object "java/lang/Object", cap, f))) a (.inl (0, lV (m + 1) el' (n + 1)))) k := fun k hk => y_ob_kp hkp ⟨_, x_set_eq⟩ ⟨_, l2⟩ hel hk
  refine ⟨_, el', ?_, ⟨l1, x_set_eq, Or.inr ⟨cap, f, e1, g2, (x_set_ne e4).trans x_set_eq, g4, fun j hj => ?_⟩⟩, (h.set e2).set haρ, ?_, hkp, e3, g2, fun k c hk => ?_⟩
  · rw [y_set e1, rs_set e2, y_set l1, rs_set haρ]
  · unfold updF
    by_cases ej : j = n
    · rw [if_pos ej, ej]
      exact ⟨g6, hv1, hob v hv2⟩
    · rw [if_neg ej]
      rcases l3 with ⟨q, -⟩ | ⟨cap0, f0, q1, q2, q3, q4, q5⟩
      · omega
      · exact ⟨g5 j (by omega), (q5 j (by omega)).2.1, hob _ (q5 j (by omega)).2.2⟩
  · have ha2 : ¬ a = 2 := fun e => by rw [e, h2] at l2; cases l2
    refine ⟨?_, ?_⟩
    · rw [x_set_ne (Ne.symm ha0), x_set_ne (by omega)]; exact h0
    · rw [x_set_ne (Ne.symm ha2), x_set_ne (by omega)]; exact h2
  · by_cases q1 : k = a
    · exact Or.inr ⟨_, by rw [q1]; exact l2⟩
    · rw [x_set_ne q1] at hk
      by_cases q2 : k = el'
      · exact Or.inl q2
      · rw [x_set_ne q2] at hk
        exact Or.inr ⟨c, hk⟩
end YLB
