/-! ===== the class's reader: a new Setup ===== -/
def x_QS5 (N : XH) (o : Nat) : XH → Option Value → Prop := fun N' r => ∃ a1 a2 a3, (N a1 = none ∧ N a2 = none ∧ N a3 = none) ∧ (64 ≤ a1 ∧ 64 ≤ a2 ∧ 64 ≤ a3) ∧ (a1 ≠ a2 ∧ a1 ≠ a3 ∧ a2 ≠ a3) ∧ N' = x_set (x_set (x_set (x_set N a1 (.inr (true, .long, 5, fun _ => .long 0))) a2 (.inr (true, .int, 5, fun _ => .int 0))) a3 (.inl (0, lV 0 2 0))) o (.inl (5, stV a1 a2 a3 s_pl)) ∧ r = none
theorem y_f8 {V V' : Nat → Value} (h0 : V 0 = V' 0) (h1 : V 1 = V' 1) (h2 : V 2 = V' 2) (h3 : V 3 = V' 3) (h4 : V 4 = V' 4) (h5 : V 5 = V' 5) (h6 : V 6 = V' 6) (h7 : V 7 = V' 7) : ∀ k, k < 8 → V k = V' k
  | 0, _ => h0
  | 1, _ => h1
  | 2, _ => h2
  | 3, _ => h3
  | 4, _ => h4
  | 5, _ => h5
  | 6, _ => h6
  | 7, _ => h7
  | k + 8, h => absurd h (by omega)
theorem p_X5init {G : XE} (hG : x_Kn G) (hK : x_KS G) (hM : x_KM G) {N : XH} (d : Nat) (h0 : N 0 = none) {o : Nat} (hN : N o = some (.inl (5, y_dfl tyX5))) : x_M G mX5_init (d + 4) 3 13 [.ref o] (N) (x_QS5 N o) x_noX := by
  refine X_M hG okX5_init rfl (L := [some (.ref o)]) rfl (Nat.le_of_ble_eq_true rfl) (fun ad0 nb0 => ?_)
  have ho0 : ¬ 0 = o := fun e => by rw [← e, h0] at hN; cases hN
  refine X_ld rfl rfl rfl rfl ?_
  refine X_obj (x_in 140 (by decide +kernel) rfl) (x_in 93 (by decide +kernel) rfl) (x_in 94 (by decide +kernel) rfl) rfl (by show 1 ≤ d + _; omega) (by show _ ≤ 100 * (d + _); simp; omega) ?_
  refine X_ld rfl rfl rfl rfl ?_
  refine X_push (v := .int 5) rfl (by decide +kernel) ?_
  refine X_newaK 5 rfl rfl (List.mem_of_getElem? (i := 1) rfl) (x_in 132 (by decide +kernel) rfl) (by decide) rfl (by decide) (Nat.le_of_ble_eq_true rfl) (Nat.le_of_ble_eq_true rfl) (x_K_any (h0) (fun a1 n1 h64a1 => ?_))
  have e1 : a1 ≠ o := fun e => by rw [e, hN] at n1; cases n1
  refine X_putF f_X5_9 rfl ((x_set_ne (Ne.symm e1)).trans hN) ⟨rfl, rfl⟩ rfl (fun C T n h => by cases h; rfl) ?_
  refine X_ld rfl rfl rfl rfl ?_
  refine X_push (v := .int 5) rfl (by decide +kernel) ?_
  refine X_newaK 5 rfl rfl (List.mem_of_getElem? (i := 0) rfl) (x_in 131 (by decide +kernel) rfl) (by decide) rfl (by decide) (Nat.le_of_ble_eq_true rfl) (Nat.le_of_ble_eq_true rfl) (x_K_any ((x_set_ne ho0).trans ((x_set_ne (by omega)).trans h0)) (fun a2 n2 h64a2 => ?_))
  have e2 : a2 ≠ o := fun e => by rw [e, x_set_eq] at n2; cases n2
  rw [x_set_ne e2] at n2
  have e21 : a2 ≠ a1 := fun e => by rw [e, x_set_eq] at n2; cases n2
  rw [x_set_ne e21] at n2
  refine X_putF f_X5_15 rfl ((x_set_ne (Ne.symm e2)).trans x_set_eq) ⟨rfl, rfl⟩ rfl (fun C T n h => by cases h; rfl) ?_
  rw [y_st3]
  refine X_ld rfl rfl rfl rfl ?_
  refine X_newK n_X5_19 rfl (Nat.le_of_ble_eq_true rfl) (Nat.le_of_ble_eq_true rfl) (x_K_any ((x_set_ne ho0).trans ((x_set_ne (by omega)).trans ((x_set_ne (by omega)).trans h0))) (fun a3 n3 h64a3 => ?_))
  have e3 : a3 ≠ o := fun e => by rw [e, x_set_eq] at n3; cases n3
  rw [x_set_ne e3] at n3
  have e32 : a3 ≠ a2 := fun e => by rw [e, x_set_eq] at n3; cases n3
  rw [x_set_ne e32] at n3
  have e31 : a3 ≠ a1 := fun e => by rw [e, x_set_eq] at n3; cases n3
  rw [x_set_ne e31] at n3
  refine X_dup rfl rfl ?_
  refine X_icallv l_X5_Jx4a65c_init_da8c8 (j_init hG hK hM d x_set_eq) rfl rfl rfl (Nat.le_of_ble_eq_true rfl) (Nat.le_of_ble_eq_true rfl) (by omega) (by omega) (by omega) ?_
  rw [x_set_set]
  refine X_putF f_X5_22 rfl ((x_set_ne (Ne.symm e3)).trans x_set_eq) ⟨rfl, rfl⟩ rfl (fun C T n h => by cases h; rfl) ?_
  rw [y_st3]
  refine X_ld rfl rfl rfl rfl ?_
  refine X_push (v := .int 1) rfl (by decide +kernel) ?_
  refine X_put f_X5_26 rfl x_set_eq ⟨rfl, rfl⟩ ?_
  rw [x_set_set]
  refine X_ld rfl rfl rfl rfl ?_
  refine X_push (v := .int 3) rfl (by decide +kernel) ?_
  refine X_put f_X5_30 rfl x_set_eq ⟨rfl, rfl⟩ ?_
  rw [x_set_set]
  refine X_ld rfl rfl rfl rfl ?_
  refine X_push (v := .int 2) rfl (by decide +kernel) ?_
  refine X_put f_X5_33 rfl x_set_eq ⟨rfl, rfl⟩ ?_
  rw [x_set_set]
  refine X_ld rfl rfl rfl rfl ?_
  refine X_push (v := .int 3) rfl (by decide +kernel) ?_
  refine X_put f_X5_36 rfl x_set_eq ⟨rfl, rfl⟩ ?_
  rw [x_set_set]
  refine X_recell (n := 8) (V' := stV a1 a2 a3 s_pl) rfl (y_f8 rfl rfl rfl rfl rfl rfl rfl rfl) ?_
  exact X_vret rfl rfl ⟨a1, a2, a3, ⟨n1, n2, n3⟩, ⟨h64a1, h64a2, h64a3⟩, ⟨Ne.symm e21, Ne.symm e31, Ne.symm e32⟩, rfl, rfl⟩ (Nat.le_of_ble_eq_true rfl) (Nat.le_of_ble_eq_true rfl)

