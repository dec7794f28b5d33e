/-! ===== the class: cells that are copied ===== -/
def dec_rdP (t p : Nat) : Decidable (rdP t p) := by
  unfold rdP
  exact inferInstance
theorem cI_cong {n b e y : Nat} {q q' : Nat → Int32} (h : ∀ j, j < n → q (b + e * j + y) = q' (b + e * j + y)) : cI n b e y q = cI n b e y q' := by
  funext j
  unfold cI
  by_cases hj : j < n
  · rw [if_pos hj, if_pos hj, h j hj]
  · rw [if_neg hj, if_neg hj]
theorem dc_cong {o i t : Nat} {q q' : Nat → Int32} (ht : t < 20) (h : ∀ p, rdP t p → (p < 275 ∨ (p - 275) % 30 ≠ 12) → q p = q' p) : dcell o q i t = dcell o q' i t := by
  have hc : t = 0 ∨ t = 1 ∨ t = 2 ∨ t = 3 ∨ t = 4 ∨ t = 5 ∨ t = 6 ∨ t = 7 ∨ (∃ s, s < 6 ∧ t = 8 + 2 * s) ∨ (∃ s, s < 6 ∧ t = 9 + 2 * s) := by
    by_cases h8 : t < 8
    · omega
    · by_cases h2 : t % 2 = 0
      · exact Or.inr (Or.inr (Or.inr (Or.inr (Or.inr (Or.inr (Or.inr (Or.inr (Or.inl ⟨(t - 8) / 2, by omega, by omega⟩))))))))
      · exact Or.inr (Or.inr (Or.inr (Or.inr (Or.inr (Or.inr (Or.inr (Or.inr (Or.inr ⟨(t - 8) / 2, by omega, by omega⟩))))))))
  rcases hc with rfl | rfl | rfl | rfl | rfl | rfl | rfl | rfl | ⟨s, hs, rfl⟩ | ⟨s, hs, rfl⟩
  · rw [dc_0, dc_0]
    have h1 := h 1 (by unfold rdP; omega) (by omega)
    have h3 := h 3 (by unfold rdP; omega) (by omega)
    have e : dV o i q = dV o i q' := funext fun k => match k with
      | 0 => rfl
      | 1 => congrArg Value.int h1
      | 2 => congrArg Value.int h3
      | 3 => rfl
      | 4 => rfl
      | 5 => rfl
      | k + 6 => rfl
    rw [e]
  · show XC_arr 200 (cI 200 75 1 0 q) = XC_arr 200 (cI 200 75 1 0 q')
    rw [cI_cong (fun j hj => h (75 + 1 * j + 0) (by unfold rdP; omega) (by omega))]
  · show (Sum.inr (true, FieldType.boolean, 5, cI 5 10 13 9 q) : XC) = Sum.inr (true, FieldType.boolean, 5, cI 5 10 13 9 q')
    rw [cI_cong (fun j hj => h (10 + 13 * j + 9) (by unfold rdP; omega) (by omega))]
  · rw [dc_3, dc_3]
    have h8 := h 8 (by unfold rdP; omega) (by omega)
    have e : sV i q = sV i q' := funext fun k => match k with
      | 0 => congrArg Value.int h8
      | 1 => rfl
      | 2 => rfl
      | k + 3 => rfl
    rw [e]
  · show XC_arr 5 (cI 5 10 13 10 q) = XC_arr 5 (cI 5 10 13 10 q')
    rw [cI_cong (fun j hj => h (10 + 13 * j + 10) (by unfold rdP; omega) (by omega))]
  · show XC_arr 5 (cI 5 10 13 11 q) = XC_arr 5 (cI 5 10 13 11 q')
    rw [cI_cong (fun j hj => h (10 + 13 * j + 11) (by unfold rdP; omega) (by omega))]
  · show XC_arr 5 (cI 5 10 13 12 q) = XC_arr 5 (cI 5 10 13 12 q')
    rw [cI_cong (fun j hj => h (10 + 13 * j + 12) (by unfold rdP; omega) (by omega))]
  · rfl
  · rw [dc_u hs, dc_u hs]
    have hx : ∀ x, 8 ≤ x → x ≤ 16 → x ≠ 12 → q (275 + 30 * s + x) = q' (275 + 30 * s + x) := fun x h1 h2 h3 => h _ (by unfold rdP; omega) (by omega)
    have e : uV i s q = uV i s q' := funext fun k => match k with
      | 0 => congrArg Value.int (hx 8 (by omega) (by omega) (by omega))
      | 1 => congrArg Value.int (hx 9 (by omega) (by omega) (by omega))
      | 2 => congrArg Value.int (hx 10 (by omega) (by omega) (by omega))
      | 3 => congrArg Value.int (hx 11 (by omega) (by omega) (by omega))
      | 4 => congrArg Value.int (hx 14 (by omega) (by omega) (by omega))
      | 5 => congrArg Value.int (hx 15 (by omega) (by omega) (by omega))
      | 6 => congrArg Value.int (hx 16 (by omega) (by omega) (by omega))
      | 7 => congrArg Value.int (hx 13 (by omega) (by omega) (by omega))
      | k + 8 => rfl
    rw [e]
  · rw [dc_p hs, dc_p hs, cI_cong (fun j hj => h (275 + 30 * s + 1 * j + 21) (by unfold rdP; omega) (by omega))]
section CPY
variable {B : XH} {J bf K tk ts : Nat → Int32} {tl : Int64} {tv : Nat → Int64} {su : Nat → Nat} {D : Nat → Nat → Int32} {i j t : Nat} {c c' q q' : Nat → Int32}
/-- only what the cells tell of a row counts -/
theorem c_cong (h : ∀ t p, t < 20 → rdP t p → (p < 275 ∨ (p - 275) % 30 ≠ 12) → q p = q' p) : cset B J bf K tk ts tl tv su (updR D i q) = cset B J bf K tk ts tl tv su (updR D i q') := by
  funext k
  by_cases hk : 75 ≤ k ∧ k ≤ 274
  · obtain ⟨a, b, ha, hb, rfl⟩ : ∃ a b, a < 10 ∧ b < 20 ∧ k = 75 + 20 * a + b := ⟨(k - 75) / 20, (k - 75) % 20, by omega, by omega, by omega⟩
    rw [c_at ha hb, c_at ha hb]
    by_cases e : a = i
    · subst a
      rw [updR_eq, updR_eq, dc_cong hb (fun p => h b p hb)]
    · rw [updR_ne e, updR_ne e]
  · by_cases h1 : 64 ≤ k ∧ k ≤ 70
    · have h7 : k = 64 ∨ k = 65 ∨ k = 66 ∨ k = 67 ∨ k = 68 ∨ k = 69 ∨ k = 70 := by omega
      rcases h7 with rfl | rfl | rfl | rfl | rfl | rfl | rfl <;> rfl
    · rw [c_out h1 hk, c_out h1 hk]
theorem rdP_one {t t' p : Nat} (ht : t < 20) (ht' : t' < 20) (h : rdP t p) (h' : rdP t' p) : t = t' := by
  unfold rdP at h h'
  rcases h with h | h | h | h | h | h | h | h | h <;> omega
/-- row c, but what cell t tells is row c's -/
def s_mixt (t : Nat) (c c' : Nat → Int32) : Nat → Int32 := fun p => @ite _ (rdP t p) (dec_rdP t p) (c' p) (c p)
theorem c_cpy (hi : i < 10) (ht : t < 20) : x_set (cset B J bf K tk ts tl tv su (updR D i c)) (75 + 20 * i + t) (dcell (su i) c' i t) = cset B J bf K tk ts tl tv su (updR D i (s_mixt t c c')) := by
  have h := c_set (B := B) (J := J) (bf := bf) (K := K) (tk := tk) (ts := ts) (tl := tl) (tv := tv) (su := su) (D := updR D i c) (i := i) (t := t) (o' := su i) (d' := s_mixt t c c') (c := dcell (su i) c' i t) hi ht (fun t' h' => by
    by_cases e : t' = t
    · rw [if_pos e, e]
      exact dc_cong ht (fun p hp _ => if_pos hp)
    · rw [if_neg e, updR_eq]
      exact dc_cong h' (fun p hp _ => if_neg (fun q => e (rdP_one h' ht hp q))))
  rw [updN_self, updR_updR] at h
  exact h
theorem c_cpyD (hi : i < 10) {o : Nat} : x_set (cset B J bf K tk ts tl tv su (updR D i c)) (75 + 20 * i) (.inl (3, updV (dV (su i) i c) 0 (.ref o))) = cset B J bf K tk ts tl tv (updN su i o) (updR D i c) := by
  have h := c_set (B := B) (J := J) (bf := bf) (K := K) (tk := tk) (ts := ts) (tl := tl) (tv := tv) (su := su) (D := updR D i c) (i := i) (t := 0) (o' := o) (d' := c) (c := .inl (3, updV (dV (su i) i c) 0 (.ref o))) hi (by decide) (fun t' h' => by
    by_cases e : t' = 0
    · rw [if_pos e, e, dc_0]
      have e2 : dV o i c = updV (dV (su i) i c) 0 (.ref o) := funext fun k => match k with
        | 0 => rfl
        | 1 => rfl
        | 2 => rfl
        | 3 => rfl
        | 4 => rfl
        | 5 => rfl
        | k + 6 => rfl
      rw [e2]
    · rw [if_neg e, updR_eq]
      obtain ⟨a, rfl⟩ : ∃ a, t' = a + 1 := ⟨t' - 1, by omega⟩
      rfl)
  rw [updR_updR] at h
  exact h
variable {G : XE} {M : XMI} {d mc ms nb0 : Nat} {ad0 : Nat → Nat} {Qn : XH → Option Value → Prop} {Qx : XH → String → Prop} {cells slots pc pc' tt : Nat} {L : List (Option Value)} {st : List Value}
theorem X_cpyc {idx n b e x a : Nat} {ty : FieldType} (hl : x_Lcpy (x_own M) idx) (hd : x_at (x_k M) pc = some (.invokestatic idx, pc', tt)) (hi : i < 10) (ht : t < 20) (hN0 : cset B J bf K tk ts tl tv su (updR D i c) a = some (.inr (true, ty, n, cI n b e x c'))) (hN1 : cset B J bf K tk ts tl tv su (updR D i c) (75 + 20 * i + t) = some (.inr (true, ty, n, cI n b e x c))) (hcell : dcell (su i) c' i t = .inr (true, ty, n, cI n b e x c')) (hn : n < 1000) {z : Int32} (hz : z = nI n) (hprim : refKind ty = false) (hfit : ∀ j, j < n → fits ty (.int (c' (b + e * j + x))) = true) (hf : 1 ≤ d) (hs : (st.map fun v => v.category).sum ≤ 80) (kk : x_W G M (x_Z G d mc ms ad0 nb0 Qn Qx) (cset B J bf K tk ts tl tv su (updR D i (s_mixt t c c'))) cells slots pc' L st) : x_W G M (x_Z G d mc ms ad0 nb0 Qn Qx) (cset B J bf K tk ts tl tv su (updR D i c)) cells slots pc L (.int z :: .int 0 :: .ref (75 + 20 * i + t) :: .int 0 :: .ref a :: st) := by
  have ez : z.toNatClampNeg = n := by rw [hz]; exact nI_clamp (by omega)
  have e0 : (0 : Int32).toNatClampNeg = 0 := by decide
  refine X_copyi hl hd (f := fun j => if j < n then c' (b + e * j + x) else 0) (g := fun j => if j < n then c (b + e * j + x) else 0) hN0 hN1 hprim (fun j hj => by rw [if_pos hj]; exact hfit j hj) (by decide) (by decide) (by rw [hz]; exact Int32.not_lt.mpr (nI_ge0 (by omega))) (by rw [ez, e0]; omega) (by rw [ez, e0]; omega) hf hs ?_
  refine X_heap ?_ kk
  rw [← c_cpy hi ht, hcell]
  have ef : (fun j => Value.int (va_cpy (fun j => if j < n then c' (b + e * j + x) else 0) (fun j => if j < n then c (b + e * j + x) else 0) (0 : Int32).toNatClampNeg (0 : Int32).toNatClampNeg z.toNatClampNeg j)) = cI n b e x c' := by
    funext j
    rw [ez, e0]
    unfold va_cpy cI
    by_cases hj : j < n
    · rw [if_pos (show 0 ≤ j ∧ j < 0 + n by omega), if_pos hj, show 0 + (j - 0) = j by omega]
      exact congrArg Value.int (if_pos hj)
    · rw [if_neg (show ¬ (0 ≤ j ∧ j < 0 + n) by omega), if_neg hj]
      exact congrArg Value.int (if_neg hj)
  rw [ef]
end CPY
