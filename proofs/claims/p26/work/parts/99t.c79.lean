/-! ===== the class's reader: a new reader ===== -/
theorem y_st5 {N : XH} {q a b c : Nat} {x A B C z : XC} : x_set (x_set (x_set (x_set (x_set N q x) a A) b B) c C) q z = x_set (x_set (x_set (x_set N a A) b B) c C) q z := by
  funext k
  unfold x_set
  by_cases h1 : k = q
  · rw [if_pos h1, if_pos h1]
  · rw [if_neg h1, if_neg h1, if_neg h1]
theorem y_f6 {V V' : Nat → Value} (h0 : V 0 = V' 0) (h1 : V 1 = V' 1) (h2 : V 2 = V' 2) (h3 : V 3 = V' 3) (h4 : V 4 = V' 4) (h5 : V 5 = V' 5) : ∀ k, k < 6 → V k = V' k
  | 0, _ => h0
  | 1, _ => h1
  | 2, _ => h2
  | 3, _ => h3
  | 4, _ => h4
  | 5, _ => h5
  | k + 6, h => absurd h (by omega)
def x_QS6 (N : XH) (r i : Nat) : XH → Option Value → Prop := fun N' rr => ∃ st a1 a2 a3 ht, (N st = none ∧ N a1 = none ∧ N a2 = none ∧ N a3 = none ∧ N ht = none) ∧ (64 ≤ st ∧ 64 ≤ a1 ∧ 64 ≤ a2 ∧ 64 ≤ a3 ∧ 64 ≤ ht) ∧ (a1 ≠ a2 ∧ a1 ≠ a3 ∧ a2 ≠ a3 ∧ a1 ≠ st ∧ a2 ≠ st ∧ a3 ≠ st) ∧ (ht ≠ a1 ∧ ht ≠ a2 ∧ ht ≠ a3 ∧ ht ≠ st) ∧ N' = x_set (x_set (x_set (x_set (x_set (x_set N a1 (.inr (true, .long, 5, fun _ => .long 0))) a2 (.inr (true, .int, 5, fun _ => .int 0))) a3 (.inl (0, lV 0 2 0))) st (.inl (5, stV a1 a2 a3 s_pl))) ht (.inr (true, .int, 4, fun _ => .int 0))) r (.inl (6, rO i st ht 0 (-1))) ∧ rr = none
theorem p_X6init {G : XE} (hG : x_Kn G) (hK : x_KS G) (hM : x_KM G) {N : XH} (d : Nat) (h0 : N 0 = none) {r i : Nat} (hN : N r = some (.inl (6, y_dfl tyX6))) : x_M G mX6_init (d + 6) 5 25 [.ref r, .ref 66, .ref (75 + 20 * i)] (N) (x_QS6 N r i) x_noX := by
  refine X_M hG okX6_init rfl (L := [some (.ref r), some (.ref 66), some (.ref (75 + 20 * i))]) rfl (Nat.le_of_ble_eq_true rfl) (fun ad0 nb0 => ?_)
  have hr0 : ¬ 0 = r := fun e => by rw [← e, h0] at hN; cases hN
  refine X_ld rfl rfl rfl rfl ?_
  refine X_obj (x_in 652 (by decide +kernel) rfl) (x_in 93 (by decide +kernel) rfl) (x_in 94 (by decide +kernel) rfl) rfl (by show 1 ≤ d + _; omega) (by show _ ≤ 100 * (d + _); simp; omega) ?_
  refine X_ld rfl rfl rfl rfl ?_
  refine X_newK n_X6_9 rfl (Nat.le_of_ble_eq_true rfl) (Nat.le_of_ble_eq_true rfl) (x_K_any h0 (fun st n0 h64s => ?_))
  have es : st ≠ r := fun e => by rw [e, hN] at n0; cases n0
  refine X_dup rfl rfl ?_
  refine X_icallNP l_X6_X5_init (p_X5init hG hK hM d ((x_set_ne (by omega)).trans h0) x_set_eq) rfl rfl rfl (Nat.le_of_ble_eq_true rfl) (Nat.le_of_ble_eq_true rfl) (by omega) (by omega) (by omega) (fun N1 r9 hq => ?_)
  obtain ⟨a1, a2, a3, ⟨n1, n2, n3⟩, ⟨g1, g2, g3⟩, ⟨d1, d2, d3⟩, rfl, rfl⟩ := hq
  refine X_stk (st' := [.ref st, .ref r]) rfl ?_
  have s1 : a1 ≠ st := fun e => by rw [e, x_set_eq] at n1; cases n1
  have s2 : a2 ≠ st := fun e => by rw [e, x_set_eq] at n2; cases n2
  have s3 : a3 ≠ st := fun e => by rw [e, x_set_eq] at n3; cases n3
  rw [x_set_ne s1] at n1
  rw [x_set_ne s2] at n2
  rw [x_set_ne s3] at n3
  rw [y_st5]
  have t1 : a1 ≠ r := fun e => by rw [e, hN] at n1; cases n1
  have t2 : a2 ≠ r := fun e => by rw [e, hN] at n2; cases n2
  have t3 : a3 ≠ r := fun e => by rw [e, hN] at n3; cases n3
  refine X_putF f_X6_12 rfl (by rw [x_set_ne (Ne.symm es), x_set_ne (Ne.symm t3), x_set_ne (Ne.symm t2), x_set_ne (Ne.symm t1)]; exact hN) ⟨rfl, rfl⟩ rfl (fun C T n h => by cases h; rfl) ?_
  refine X_ld rfl rfl rfl rfl ?_
  refine X_push (v := .int 4) rfl (by decide +kernel) ?_
  refine X_newaK 4 rfl rfl (List.mem_of_getElem? (i := 0) rfl) (x_in 131 (by decide +kernel) rfl) (by decide) rfl (by decide) (Nat.le_of_ble_eq_true rfl) (Nat.le_of_ble_eq_true rfl) (x_K_any (by rw [x_set_ne hr0, x_set_ne (by omega), x_set_ne (by omega), x_set_ne (by omega), x_set_ne (by omega)]; exact h0) (fun ht n4 h64h => ?_))
  have u0 : ht ≠ r := fun e => by rw [e, x_set_eq] at n4; cases n4
  rw [x_set_ne u0] at n4
  have u1 : ht ≠ st := fun e => by rw [e, x_set_eq] at n4; cases n4
  rw [x_set_ne u1] at n4
  have u2 : ht ≠ a3 := fun e => by rw [e, x_set_eq] at n4; cases n4
  rw [x_set_ne u2] at n4
  have u3 : ht ≠ a2 := fun e => by rw [e, x_set_eq] at n4; cases n4
  rw [x_set_ne u3] at n4
  have u4 : ht ≠ a1 := fun e => by rw [e, x_set_eq] at n4; cases n4
  rw [x_set_ne u4] at n4
  refine X_put f_X6_18 rfl ((x_set_ne (Ne.symm u0)).trans x_set_eq) ⟨rfl, rfl⟩ ?_
  rw [y_st3]
  refine X_ld rfl rfl rfl rfl ?_
  refine X_push (v := .int (-1)) rfl (by decide +kernel) ?_
  refine X_put f_X6_22 rfl x_set_eq ⟨rfl, rfl⟩ ?_
  rw [x_set_set]
  refine X_ld rfl rfl rfl rfl ?_
  refine X_ld rfl rfl rfl rfl ?_
  refine X_putF f_X6_26 rfl x_set_eq ⟨rfl, rfl⟩ rfl (fun C T n h => by cases h; rfl) ?_
  rw [x_set_set]
  refine X_ld rfl rfl rfl rfl ?_
  refine X_ld rfl rfl rfl rfl ?_
  refine X_putF f_X6_30 rfl x_set_eq ⟨rfl, rfl⟩ rfl (fun C T n h => by cases h; rfl) ?_
  rw [x_set_set]
  refine X_recell (n := 6) (V' := rO i st ht 0 (-1)) rfl (y_f6 rfl rfl rfl rfl rfl rfl) ?_
  exact X_vret rfl rfl ⟨st, a1, a2, a3, ht, ⟨n0, n1, n2, n3, n4⟩, ⟨h64s, g1, g2, g3, h64h⟩, ⟨d1, d2, d3, s1, s2, s3⟩, ⟨u4, u3, u2, u1⟩, rfl, rfl⟩ (Nat.le_of_ble_eq_true rfl) (Nat.le_of_ble_eq_true rfl)
/-- the names of a new reader's cells -/
def y_rho (r st a1 a2 ht a3 : Nat) : Nat → Nat
  | 0 => r
  | 1 => st
  | 2 => a1
  | 3 => a2
  | 4 => ht
  | _ => a3
theorem y_new6 {B : XH} {r st a1 a2 a3 ht i : Nat} {c0 : XC} (h1 : st ≠ r) (h2 : a1 ≠ r) (h3 : a2 ≠ r) (h4 : a3 ≠ r) (h5 : ht ≠ r) (d1 : a1 ≠ a2) (d2 : a1 ≠ a3) (d3 : a2 ≠ a3) (d4 : a1 ≠ st) (d5 : a2 ≠ st) (d6 : a3 ≠ st) (u1 : ht ≠ a1) (u2 : ht ≠ a2) (u3 : ht ≠ a3) (u4 : ht ≠ st) : x_set (x_set (x_set (x_set (x_set (x_set (x_set B r c0) a1 (.inr (true, .long, 5, fun _ => .long 0))) a2 (.inr (true, .int, 5, fun _ => .int 0))) a3 (.inl (0, lV 0 2 0))) st (.inl (5, stV a1 a2 a3 s_pl))) ht (.inr (true, .int, 4, fun _ => .int 0))) r (.inl (6, rO i st ht 0 (-1))) = rset (x_set B a3 (.inl (0, lV 0 2 0))) (y_rho r st a1 a2 ht a3) i 0 (-1) s_pl (fun _ => 0) (fun _ => 0) (fun _ => 0) := by
  funext q
  show _ = (if q = r then some (.inl (6, rO i st ht 0 (-1))) else if q = st then some (.inl (5, stV a1 a2 a3 s_pl)) else if q = a1 then some (.inr (true, .long, 5, fun _ => .long 0)) else if q = a2 then some (.inr (true, .int, 5, fun _ => .int 0)) else if q = ht then some (.inr (true, .int, 4, fun _ => .int 0)) else x_set B a3 (.inl (0, lV 0 2 0)) q)
  by_cases e0 : q = r
  · rw [e0, x_set_eq, if_pos rfl]
  · rw [x_set_ne e0, if_neg e0]
    by_cases e1 : q = st
    · rw [e1, x_set_ne (Ne.symm u4), x_set_eq, if_pos rfl]
    · rw [if_neg e1]
      by_cases e2 : q = a1
      · rw [e2, x_set_ne (Ne.symm u1), x_set_ne d4, x_set_ne d2, x_set_ne d1, x_set_eq, if_pos rfl]
      · rw [if_neg e2]
        by_cases e3 : q = a2
        · rw [e3, x_set_ne (Ne.symm u2), x_set_ne d5, x_set_ne d3, x_set_eq, if_pos rfl]
        · rw [if_neg e3]
          by_cases e4 : q = ht
          · rw [e4, x_set_eq, if_pos rfl]
          · rw [if_neg e4, x_set_ne e4, x_set_ne e1]
            by_cases e5 : q = a3
            · rw [e5, x_set_eq, x_set_eq]
            · rw [x_set_ne e5, x_set_ne e5, x_set_ne e3, x_set_ne e2, x_set_ne e0]

