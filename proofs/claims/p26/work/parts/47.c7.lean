/-! ===== casts, lists ===== -/
section XCAST
variable {G : XE} {M : XMI} {Z : XZ} {N : XH} {cells slots pc pc' t : Nat} {L : List (Option Value)} {st : List Value}
theorem X_castS {idx ci o n : Nat} {C : String} {T : u_T} {V : Nat → Value} (hlink : Cond.classLink (x_own M) idx C ∈ x_T) (hd : x_at (x_k M) pc = some (.checkcast idx, pc', t)) (hN : N o = some (.inl (ci, V))) (hc : vwCl[ci]? = some (C, T, n)) (kk : x_W G M Z N cells slots pc' L (.ref o :: st)) : x_W G M Z N cells slots pc L (.ref o :: st) := by
  intro p e s m args below meth c ad nb H locs ls B hR hn he hS hl hvs
  obtain ⟨hx, hb, hml, hr, hlk, hown, hts, hW, hkp, htb, hnm, hKn, hok⟩ := id B
  obtain ⟨d1, e1⟩ := x_decn hok hd (n := 2) rfl
  subst e1
  obtain ⟨ho, g1, g2, g3, r, g4, cell, q1, q2, q3, q4⟩ := x_R_obj hR hN hc
  cases hc.symm.trans g4
  have hcls := (u_Kn_moved hW.alike (hKn.1 ci _ hc)).2
  exact va_castS hx hb hown (hts _ hlink) hcls ⟨cell, q1, by rw [q3]; rfl, by rw [q2]; exact hcls.1⟩ d1 (kk p e s m args below meth c ad nb H locs ls B hR hn he hS hl hvs)
theorem X_castY {idx ci o n : Nat} {C nm : String} {T : u_T} {V : Nat → Value} (hlink : Cond.classLink (x_own M) idx nm ∈ x_T) (hca : Cond.castable C nm ∈ lw_tbl) (hd : x_at (x_k M) pc = some (.checkcast idx, pc', t)) (hN : N o = some (.inl (ci, V))) (hc : vwCl[ci]? = some (C, T, n)) (kk : x_W G M Z N cells slots pc' L (.ref o :: st)) : x_W G M Z N cells slots pc L (.ref o :: st) := by
  intro p e s m args below meth c ad nb H locs ls B hR hn he hS hl hvs
  obtain ⟨hx, hb, hml, hr, hlk, hown, hts, hW, hkp, htb, hnm, hKn, hok⟩ := id B
  obtain ⟨d1, e1⟩ := x_decn hok hd (n := 2) rfl
  subst e1
  obtain ⟨ho, g1, g2, g3, r, g4, cell, q1, q2, q3, q4⟩ := x_R_obj hR hN hc
  cases hc.symm.trans g4
  have hcls := (u_Kn_moved hW.alike (hKn.1 ci _ hc)).2
  exact va_castY hx hb hown (hts _ hlink) (va_Nw.warmC hW (hKn.2.2.1.1 _ hca rfl)) ⟨cell, q1, by rw [q3]; rfl, by rw [q2]; exact hcls.1⟩ d1 (kk p e s m args below meth c ad nb H locs ls B hR hn he hS hl hvs)
end XCAST
theorem cl_X3_112 : Cond.classLink RX3 112 RX4 ∈ x_T := x_in 1112 (by decide +kernel) rfl
theorem cl_X3_131 : Cond.classLink RX3 131 RX0 ∈ x_T := x_in 1114 (by decide +kernel) rfl
theorem cl_X5_50 : Cond.classLink RX5 50 RX4 ∈ x_T := x_in 777 (by decide +kernel) rfl
theorem cl_X10_168 : Cond.classLink RX10 168 RX4 ∈ x_T := x_in 457 (by decide +kernel) rfl
theorem cl_X1_2 : Cond.classLink RX1 2 RX2 ∈ x_T := x_in 940 (by decide +kernel) rfl
theorem ca_X0 : Cond.castable RX0 RX2 ∈ lw_tbl := List.mem_of_getElem? (i := 1475) (by decide +kernel)
theorem ca_X1 : Cond.castable RX1 RX2 ∈ lw_tbl := List.mem_of_getElem? (i := 1476) (by decide +kernel)
theorem f_Jx4a65c_9 : x_FL RJx4a65c 9 0 1 (.array (.object "java/lang/Object")) false := ⟨_, _, _, _, cl_0, by decide, rfl, rfl, Or.inl (x_in 155 (by decide +kernel) rfl)⟩
theorem f_Jx4a65c_48 : x_FL RJx4a65c 48 0 2 .int false := ⟨_, _, _, _, cl_0, by decide, rfl, rfl, Or.inl (x_in 156 (by decide +kernel) rfl)⟩
/-- an ArrayList's object -/
def lV (mc : Int32) (el n : Nat) : Nat → Value := fun k => match k with
  | 0 => .int mc
  | 1 => .ref el
  | _ => .int (nI n)
/-- a list of n references p at a -/
def x_li (N : XH) (a n : Nat) (p : Nat → Nat) : Prop := ∃ mc el, N a = some (.inl (0, lV mc el n)) ∧ (0 < n → ∃ mu cap f, N el = some (.inr (mu, .object "java/lang/Object", cap, f)) ∧ (n ≤ cap ∧ cap < 2147483648) ∧ ∀ j, j < n → f j = .ref (p j))
theorem j_size {G : XE} (hG : x_Kn G) {N : XH} (d : Nat) {a n : Nat} {p : Nat → Nat} (hl : x_li N a n p)  : x_M G mJx4a65c_size_8abf5 d 0 0 [.ref a] (N) (x_Ret N (.int (nI n))) x_noX := by
  refine X_M hG okJx4a65c_size_8abf5 rfl (L := [some (.ref a)]) rfl (Nat.le_of_ble_eq_true rfl) (fun ad0 nb0 => ?_)
  obtain ⟨mc, el, hl1, hlf⟩ := hl
  refine X_ld rfl rfl rfl rfl ?_
  refine X_get f_Jx4a65c_48 rfl hl1 rfl ?_
  exact X_iret rfl rfl ⟨rfl, rfl⟩ (Nat.le_of_ble_eq_true rfl) (Nat.le_of_ble_eq_true rfl)
theorem j_elementData {G : XE} (hG : x_Kn G) {N : XH} (d : Nat) {a n : Nat} {p : Nat → Nat} (hl : x_li N a n p)  (j : Nat) (hj : j < n) {x : Int32} (hx : x = nI j) : x_M G mJx4a65c_elementData_915e3 d 0 0 [.ref a, .int x] (N) (x_Ret N (.ref (p j))) x_noX := by
  refine X_M hG okJx4a65c_elementData_915e3 rfl (L := [some (.ref a), some (.int x)]) rfl (Nat.le_of_ble_eq_true rfl) (fun ad0 nb0 => ?_)
  obtain ⟨mc, el, hl1, hlf⟩ := hl
  obtain ⟨mu, cap, f, hl2, hl3, hl4⟩ := hlf (by omega)
  refine X_ld rfl rfl rfl rfl ?_
  refine X_get f_Jx4a65c_9 rfl hl1 rfl ?_
  refine X_ld rfl rfl rfl rfl ?_
  refine X_aald rfl hl2 rfl (by rw [hx]; exact vp_in_nI (by omega) (by omega)) (v := .ref (p j)) (by rw [hx, nI_clamp (by omega)]; exact hl4 j hj) ?_
  exact X_aret rfl rfl (Or.inl ⟨_, rfl⟩) (Or.inr ⟨_, rfl⟩) ⟨rfl, rfl⟩ (Nat.le_of_ble_eq_true rfl) (Nat.le_of_ble_eq_true rfl)
theorem j_checkIndex {G : XE} (hG : x_Kn G) {N : XH} (d : Nat) {x y : Int32} (a b : Nat) (hx : x = nI a) (hy : y = nI b) (hab : a < b) (hb : b < 2147483648) : x_M G mJ15_checkIndex_7cf53 (d + 1) 0 0 [.int x, .int y] (N) (x_Ret N (.int x)) x_noX := by
  refine X_M hG okJ15_checkIndex_7cf53 rfl (L := [some (.int x), some (.int y)]) rfl (Nat.le_of_ble_eq_true rfl) (fun ad0 nb0 => ?_)
  refine X_ld rfl rfl rfl rfl ?_
  refine X_ld rfl rfl rfl rfl ?_
  refine X_push (v := .null) rfl rfl ?_
  refine X_scall l_J15_J3_checkIndex_8e157 (c_pchkN hG d a b hx hy hab hb) rfl rfl rfl (Nat.le_of_ble_eq_true rfl) (Nat.le_of_ble_eq_true rfl) (by omega) (Nat.le_of_ble_eq_true rfl) (Nat.le_of_ble_eq_true rfl) ?_
  exact X_iret rfl rfl ⟨rfl, rfl⟩ (Nat.le_of_ble_eq_true rfl) (Nat.le_of_ble_eq_true rfl)
theorem j_get {G : XE} (hG : x_Kn G) {N : XH} (d : Nat) {a n : Nat} {p : Nat → Nat} (hl : x_li N a n p)  (j : Nat) (hj : j < n) {x : Int32} (hx : x = nI j) : x_M G mJx4a65c_get_915e3 (d + 2) 0 0 [.ref a, .int x] (N) (x_Ret N (.ref (p j))) x_noX := by
  refine X_M hG okJx4a65c_get_915e3 rfl (L := [some (.ref a), some (.int x)]) rfl (Nat.le_of_ble_eq_true rfl) (fun ad0 nb0 => ?_)
  obtain ⟨mc, el, hl1, hlf⟩ := hl
  obtain ⟨mu, cap, f, hl2, hl3, hl4⟩ := hlf (by omega)
  refine X_ld rfl rfl rfl rfl ?_
  refine X_ld rfl rfl rfl rfl ?_
  refine X_get f_Jx4a65c_48 rfl hl1 rfl ?_
  refine X_scall l_Jx4a65c_J15_checkIndex_7cf53 (j_checkIndex hG d j n hx rfl hj (by omega)) rfl rfl rfl (Nat.le_of_ble_eq_true rfl) (Nat.le_of_ble_eq_true rfl) (by omega) (Nat.le_of_ble_eq_true rfl) (Nat.le_of_ble_eq_true rfl) ?_
  refine X_pop rfl rfl ?_
  refine X_ld rfl rfl rfl rfl ?_
  refine X_ld rfl rfl rfl rfl ?_
  refine X_vcall hl1 l_Jx4a65c_Jx4a65c_elementData_915e3 (j_elementData hG (d + 1) ⟨mc, el, hl1, hlf⟩ j hj hx) rfl rfl rfl rfl (Nat.le_of_ble_eq_true rfl) (Nat.le_of_ble_eq_true rfl) (by omega) (Nat.le_of_ble_eq_true rfl) (Nat.le_of_ble_eq_true rfl) ?_
  exact X_aret rfl rfl (Or.inl ⟨_, rfl⟩) (Or.inr ⟨_, rfl⟩) ⟨rfl, rfl⟩ (Nat.le_of_ble_eq_true rfl) (Nat.le_of_ble_eq_true rfl)

