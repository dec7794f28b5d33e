/-! ===== the start: new cells in a row (wip/whole/gen_d10.py) ===== -/
/-- the cells from a on, over those below; the next name is known -/
def k_at (N : XH) (a : Nat) (l : List XC) : XH := fun k => if k = 0 then some (x_gh (a + l.length)) else if k < a then N k else l[k - a]?
section ZAT
variable {N : XH} {a f j n : Nat} {l m : List XC} {c : XC}
theorem z_g0 : k_at N a l 0 = some (x_gh (a + l.length)) := if_pos rfl
theorem z_get (ha : 64 ≤ a) : k_at N a l (a + j) = l[j]? := by
  unfold k_at
  rw [if_neg (by omega), if_neg (by omega), Nat.add_sub_cancel_left]
theorem z_new (ha : 64 ≤ a) : x_set (x_set (k_at N a l) (a + l.length) c) 0 (x_gh (a + l.length + 1)) = k_at N a (l ++ [c]) := by
  funext k
  unfold x_set k_at
  by_cases h0 : k = 0
  · rw [if_pos h0, if_pos h0, List.length_append]
    rfl
  · rw [if_neg h0, if_neg h0, if_neg h0]
    by_cases h1 : k < a
    · rw [if_neg (by omega), if_pos h1, if_pos h1]
    · rw [if_neg h1, if_neg h1]
      by_cases h2 : k = a + l.length
      · rw [if_pos h2, h2, Nat.add_sub_cancel_left, List.getElem?_append_right (Nat.le_refl _), Nat.sub_self]
        rfl
      · rw [if_neg h2]
        by_cases h3 : k < a + l.length
        · rw [List.getElem?_append_left (by omega)]
        · rw [List.getElem?_eq_none (by omega), List.getElem?_eq_none (by rw [List.length_append, List.length_singleton]; omega)]
theorem z_put (ha : 64 ≤ a) (hj : j < l.length) : x_set (k_at N a l) (a + j) c = k_at N a (l.set j c) := by
  funext k
  unfold x_set k_at
  by_cases h2 : k = a + j
  · rw [if_pos h2, if_neg (by omega), if_neg (by omega), h2, Nat.add_sub_cancel_left, List.getElem?_set_self hj]
  · rw [if_neg h2]
    by_cases h0 : k = 0
    · rw [if_pos h0, if_pos h0, List.length_set]
    · rw [if_neg h0, if_neg h0]
      by_cases h1 : k < a
      · rw [if_pos h1, if_pos h1]
      · rw [if_neg h1, if_neg h1, List.getElem?_set_ne (by omega)]
theorem z_app (ha : 64 ≤ a) (hf : a + l.length = f) : k_at N a (l ++ m) = k_at (k_at N a l) f m := by
  subst hf
  funext k
  unfold k_at
  by_cases h0 : k = 0
  · rw [if_pos h0, if_pos h0, List.length_append, Nat.add_assoc]
  · rw [if_neg h0, if_neg h0, if_neg h0]
    by_cases h1 : k < a
    · rw [if_pos h1, if_pos h1, if_pos (by omega)]
    · rw [if_neg h1, if_neg h1]
      by_cases h3 : k < a + l.length
      · rw [if_pos h3, List.getElem?_append_left (by omega)]
      · rw [if_neg h3, List.getElem?_append_right (by omega), Nat.sub_sub]
variable {G : XE} {M : XMI} {Z : XZ} {cells slots pc pc' t : Nat} {L : List (Option Value)} {st : List Value}
theorem Z_new (ha : 64 ≤ a) (f : Nat) (hf : a + l.length = f) (kk : x_W G M Z (k_at N a (l ++ [c])) cells slots pc L (.ref f :: st)) : x_K G M Z (k_at N a l) cells slots pc L st c := by
  subst hf
  exact x_K_gh z_g0 (fun _ _ => X_heap (z_new ha) kk)
theorem Z_put {idx ci k : Nat} {ty : FieldType} {V : Nat → Value} {v : Value} (ha : 64 ≤ a) (hF : x_FL (x_own M) idx ci k ty false) (hd : x_at (x_k M) pc = some (.putfield idx, pc', t)) (hj : l[j]? = some (.inl (ci, V))) (hv : narrow ty v = v ∧ fits ty v = true) (kk : x_W G M Z (k_at N a (l.set j (.inl (ci, updV V k v)))) cells slots pc' L st) : x_W G M Z (k_at N a l) cells slots pc L (v :: .ref (a + j) :: st) :=
  X_put hF hd ((z_get ha).trans hj) hv (X_heap (z_put ha (List.getElem?_eq_some_iff.mp hj).1) kk)
theorem Z_putF {idx ci k : Nat} {ty : FieldType} {V : Nat → Value} {v : Value} (ha : 64 ≤ a) (hF : x_FL (x_own M) idx ci k ty true) (hd : x_at (x_k M) pc = some (.putfield idx, pc', t)) (hj : l[j]? = some (.inl (ci, V))) (hv : narrow ty v = v ∧ fits ty v = true) (hini : (x_y M).name = "<init>") (hdecl : ∀ (C : String) (T : u_T) (n : Nat), vwCl[ci]? = some (C, T, n) → (T k).1 = x_own M) (kk : x_W G M Z (k_at N a (l.set j (.inl (ci, updV V k v)))) cells slots pc' L st) : x_W G M Z (k_at N a l) cells slots pc L (v :: .ref (a + j) :: st) :=
  X_putF hF hd ((z_get ha).trans hj) hv hini hdecl (X_heap (z_put ha (List.getElem?_eq_some_iff.mp hj).1) kk)
theorem Z_aast {i n v ci : Nat} {C : String} {T : u_T} {nf : Nat} {F V : Nat → Value} {x : Int32} (ha : 64 ≤ a) (hd : x_at (x_k M) pc = some (.aastore, pc', t)) (hj : l[j]? = some (.inr (true, .object C, n, F))) (hi : l[i]? = some (.inl (ci, V))) (hc : vwCl[ci]? = some (C, T, nf)) (hin : vp_in x n) (hv : v = a + i) (kk : x_W G M Z (k_at N a (l.set j (.inr (true, .object C, n, updV F x.toNatClampNeg (.ref v))))) cells slots pc' L st) : x_W G M Z (k_at N a l) cells slots pc L (.ref v :: .int x :: .ref (a + j) :: st) := by
  subst hv
  exact X_aast hd ((z_get ha).trans hj) ((z_get ha).trans hi) hc hin (X_heap (z_put ha (List.getElem?_eq_some_iff.mp hj).1) kk)
end ZAT
/-- cells alike: where it counts -/
def x_lk : XC → XC → Prop
  | .inl (ci, V), .inl (ci', V') => ci = ci' ∧ ∀ r : vw_C, vwCl[ci]? = some r → ∀ j, j < r.2.2 → V j = V' j
  | .inr (mu, ty, n, f), .inr (mu', ty', n', f') => (mu = mu' ∧ ty = ty' ∧ n = n') ∧ ∀ j, j < n → f j = f' j
  | _, _ => False
theorem x_lk_rfl {c : XC} : x_lk c c := by
  rcases c with ⟨ci, V⟩ | ⟨mu, ty, n, f⟩
  · exact ⟨rfl, fun _ _ _ _ => rfl⟩
  · exact ⟨⟨rfl, rfl, rfl⟩, fun _ _ => rfl⟩
def x_lks : List XC → List XC → Prop
  | [], [] => True
  | c :: l, c' :: l' => x_lk c c' ∧ x_lks l l'
  | _, _ => False
theorem x_lks_get : ∀ {l l' : List XC}, x_lks l l' → l.length = l'.length ∧ ∀ (j : Nat) (c' : XC), l'[j]? = some c' → ∃ c, l[j]? = some c ∧ x_lk c c'
  | [], [], _ => ⟨rfl, fun j c' h => by simp at h⟩
  | c :: l, c' :: l', h => ⟨congrArg (· + 1) (x_lks_get h.2).1, fun j d h1 => by
    cases j with
    | zero =>
      have e : c' = d := by simpa using h1
      exact ⟨c, rfl, e ▸ h.1⟩
    | succ j =>
      have e : l'[j]? = some d := by simpa using h1
      obtain ⟨x, hx, ha⟩ := (x_lks_get h.2).2 j d e
      exact ⟨x, by simpa using hx, ha⟩⟩
  | [], _ :: _, h => h.elim
  | _ :: _, [], h => h.elim
section ALIKE
variable {G : XE} {M : XMI} {Z : XZ} {N N' : XH} {cells slots pc : Nat} {L : List (Option Value)} {st : List Value}
theorem x_cok_al {nb : Nat} {c c' : XC} (ha : x_lk c c') (h : x_cok nb c) : x_cok nb c' := by
  rcases c with ⟨ci, V⟩ | ⟨mu, ty, n, f⟩ <;> rcases c' with ⟨ci', V'⟩ | ⟨mu', ty', n', f'⟩
  · obtain ⟨rfl, h2⟩ := ha
    exact fun r hr j hj => h2 r hr j hj ▸ h r hr j hj
  · exact ha.elim
  · exact ha.elim
  · obtain ⟨⟨rfl, rfl, rfl⟩, h2⟩ := ha
    exact fun j hj => h2 j hj ▸ h j hj
theorem x_cell_al {a : Nat} {ad : Nat → Nat} {c c' : XC} {H : Heap} (ha : x_lk c c') (h : x_cell G ad a c H) : x_cell G ad a c' H := by
  rcases c with ⟨ci, V⟩ | ⟨mu, ty, n, f⟩ <;> rcases c' with ⟨ci', V'⟩ | ⟨mu', ty', n', f'⟩
  · obtain ⟨rfl, h2⟩ := ha
    obtain ⟨h1, r, hr, h3⟩ := h
    exact ⟨h1, r, hr, h3.to fun k hk => congrArg (x_tr ad) (h2 r hr k hk)⟩
  · exact ha.elim
  · exact ha.elim
  · obtain ⟨⟨rfl, rfl, rfl⟩, h2⟩ := ha
    obtain ⟨h1, h3, h4⟩ := h
    refine ⟨h1, h3, ?_⟩
    cases mu with
    | true => exact Eq.trans h4 (congrArg some (arrV_ext _ n fun j hj => congrArg (x_tr ad) (h2 j hj)))
    | false =>
      obtain ⟨cell, c1, c2, c3, c4, c5, c6⟩ := h4
      exact ⟨cell, c1, c2, c3, c4, c5, fun j hj => by rw [← h2 j hj]; exact c6 j hj⟩
theorem x_R_al {ad : Nat → Nat} {nb : Nat} {H : Heap} (hs : ∀ k c', N' k = some c' → ∃ c, N k = some c ∧ x_lk c c') (h0 : ∀ c', N' 0 = some c' → N 0 = some c') (h : x_R G ad nb N H) : x_R G ad nb N' H := by
  refine ⟨fun k c' k0 hk => ?_, fun i j ci cj i0 j0 hi hj e => ?_, h.2.2.1, h.2.2.2.1, fun c hc => h.2.2.2.2 c (h0 c hc)⟩
  · obtain ⟨c, hc, ha⟩ := hs k c' hk
    obtain ⟨h1, h2, h3⟩ := h.1 k c k0 hc
    exact ⟨h1, x_cok_al ha h2, x_cell_al ha h3⟩
  · obtain ⟨c, hc, -⟩ := hs i ci hi
    obtain ⟨c', hc', -⟩ := hs j cj hj
    exact h.2.1 i j c c' i0 j0 hc hc' e
theorem X_alike (hs : ∀ k c', N' k = some c' → ∃ c, N k = some c ∧ x_lk c c') (h0 : ∀ c', N' 0 = some c' → N 0 = some c') (kk : x_W G M Z N' cells slots pc L st) : x_W G M Z N cells slots pc L st :=
  fun p e s m args below meth c ad nb H locs ls B hR => kk p e s m args below meth c ad nb H locs ls B (x_R_al hs h0 hR)
theorem X_alz {a : Nat} {l l' : List XC} (ha : 64 ≤ a) (h : x_lks l l') (kk : x_W G M Z (k_at N a l') cells slots pc L st) : x_W G M Z (k_at N a l) cells slots pc L st := by
  refine X_alike (fun k c' hk => ?_) (fun c' hc => ?_) kk
  · unfold k_at at hk ⊢
    rw [(x_lks_get h).1]
    by_cases h0 : k = 0
    · rw [if_pos h0] at hk ⊢
      exact ⟨c', hk, x_lk_rfl⟩
    · rw [if_neg h0] at hk ⊢
      by_cases h1 : k < a
      · rw [if_pos h1] at hk ⊢
        exact ⟨c', hk, x_lk_rfl⟩
      · rw [if_neg h1] at hk ⊢
        exact (x_lks_get h).2 _ _ hk
  · rw [z_g0] at hc ⊢
    rw [(x_lks_get h).1]
    exact hc
end ALIKE
/-! ===== the start: the constructors ===== -/
def zU (u : Nat) : Nat → Value := updV (updV (y_dfl tyX9) 4 (.int (-2))) 8 (.ref (u + 1))
def zS (u : Nat) : Nat → Value := updV (updV (updV (y_dfl tyX7) 1 (.ref (u + 1))) 2 (.ref (u + 2))) 3 (.ref (u + 3))
def zT (u : Nat) : Nat → Value := updV (updV (updV (updV (y_dfl tyX8) 0 (.ref (u + 1))) 1 (.ref (u + 2))) 2 (.ref (u + 3))) 5 (.int 256)
theorem z_X9 {G : XE} (hG : x_Kn G) {N : XH} (d : Nat) {a : Nat} (ha : 64 ≤ a) : x_M G mX9_init (d + 1) 1 5 [.ref a] (k_at N a [.inl (9, y_dfl tyX9)]) (x_RetV (k_at N a [.inl (9, zU a), .inr (true, .int, 5, fun _ => .int 0)])) x_noX := by
  refine X_M hG okX9_init rfl (L := [some (.ref a)]) rfl (Nat.le_of_ble_eq_true rfl) (fun ad0 nb0 => ?_)
  refine X_ld rfl rfl rfl rfl ?_
  refine X_obj (x_in 249 (by decide +kernel) rfl) (x_in 93 (by decide +kernel) rfl) (x_in 94 (by decide +kernel) rfl) rfl (by show 1 ≤ d + _; omega) (by show _ ≤ 100 * (d + _); simp; omega) ?_
  refine X_ld rfl rfl rfl rfl ?_
  refine X_push (v := .int (-2)) rfl (by decide +kernel) ?_
  refine Z_put (j := 0) ha f_X9_9 rfl rfl ⟨rfl, rfl⟩ ?_
  refine X_ld rfl rfl rfl rfl ?_
  refine X_push (v := .int 5) rfl (by decide +kernel) ?_
  refine X_newaK 5 rfl rfl (List.mem_of_getElem? (i := 0) rfl) (x_in 131 (by decide +kernel) rfl) (by decide) (by decide +kernel) (by decide) (Nat.le_of_ble_eq_true rfl) (Nat.le_of_ble_eq_true rfl) (Z_new ha (a + 1) rfl ?_)
  refine Z_putF (j := 0) ha f_X9_15 rfl rfl ⟨rfl, rfl⟩ rfl (fun C T n h => by cases h; rfl) ?_
  exact X_vret rfl rfl ⟨rfl, rfl⟩ (Nat.le_of_ble_eq_true rfl) (Nat.le_of_ble_eq_true rfl)
theorem z_X7 {G : XE} (hG : x_Kn G) {N : XH} (d : Nat) {a : Nat} (ha : 64 ≤ a) : x_M G mX7_init (d + 1) 3 15 [.ref a] (k_at N a [.inl (7, y_dfl tyX7)]) (x_RetV (k_at N a [.inl (7, zS a), .inr (true, .int, 5, fun _ => .int 0), .inr (true, .int, 5, fun _ => .int 0), .inr (true, .int, 5, fun _ => .int 0)])) x_noX := by
  refine X_M hG okX7_init rfl (L := [some (.ref a)]) rfl (Nat.le_of_ble_eq_true rfl) (fun ad0 nb0 => ?_)
  refine X_ld rfl rfl rfl rfl ?_
  refine X_obj (x_in 220 (by decide +kernel) rfl) (x_in 93 (by decide +kernel) rfl) (x_in 94 (by decide +kernel) rfl) rfl (by show 1 ≤ d + _; omega) (by show _ ≤ 100 * (d + _); simp; omega) ?_
  refine X_ld rfl rfl rfl rfl ?_
  refine X_push (v := .int 5) rfl (by decide +kernel) ?_
  refine X_newaK 5 rfl rfl (List.mem_of_getElem? (i := 0) rfl) (x_in 131 (by decide +kernel) rfl) (by decide) (by decide +kernel) (by decide) (Nat.le_of_ble_eq_true rfl) (Nat.le_of_ble_eq_true rfl) (Z_new ha (a + 1) rfl ?_)
  refine Z_putF (j := 0) ha f_X7_9 rfl rfl ⟨rfl, rfl⟩ rfl (fun C T n h => by cases h; rfl) ?_
  refine X_ld rfl rfl rfl rfl ?_
  refine X_push (v := .int 5) rfl (by decide +kernel) ?_
  refine X_newaK 5 rfl rfl (List.mem_of_getElem? (i := 0) rfl) (x_in 131 (by decide +kernel) rfl) (by decide) (by decide +kernel) (by decide) (Nat.le_of_ble_eq_true rfl) (Nat.le_of_ble_eq_true rfl) (Z_new ha (a + 2) rfl ?_)
  refine Z_putF (j := 0) ha f_X7_15 rfl rfl ⟨rfl, rfl⟩ rfl (fun C T n h => by cases h; rfl) ?_
  refine X_ld rfl rfl rfl rfl ?_
  refine X_push (v := .int 5) rfl (by decide +kernel) ?_
  refine X_newaK 5 rfl rfl (List.mem_of_getElem? (i := 0) rfl) (x_in 131 (by decide +kernel) rfl) (by decide) (by decide +kernel) (by decide) (Nat.le_of_ble_eq_true rfl) (Nat.le_of_ble_eq_true rfl) (Z_new ha (a + 3) rfl ?_)
  refine Z_putF (j := 0) ha f_X7_18 rfl rfl ⟨rfl, rfl⟩ rfl (fun C T n h => by cases h; rfl) ?_
  exact X_vret rfl rfl ⟨rfl, rfl⟩ (Nat.le_of_ble_eq_true rfl) (Nat.le_of_ble_eq_true rfl)
theorem z_X8 {G : XE} (hG : x_Kn G) {N : XH} (d : Nat) {a : Nat} (ha : 64 ≤ a) : x_M G mX8_init (d + 1) 3 2403 [.ref a] (k_at N a [.inl (8, y_dfl tyX8)]) (x_RetV (k_at N a [.inl (8, zT a), .inr (true, .int, 801, fun _ => .int 0), .inr (true, .int, 801, fun _ => .int 0), .inr (true, .long, 801, fun _ => .long 0)])) x_noX := by
  refine X_M hG okX8_init rfl (L := [some (.ref a)]) rfl (Nat.le_of_ble_eq_true rfl) (fun ad0 nb0 => ?_)
  refine X_ld rfl rfl rfl rfl ?_
  refine X_obj (x_in 100 (by decide +kernel) rfl) (x_in 93 (by decide +kernel) rfl) (x_in 94 (by decide +kernel) rfl) rfl (by show 1 ≤ d + _; omega) (by show _ ≤ 100 * (d + _); simp; omega) ?_
  refine X_ld rfl rfl rfl rfl ?_
  refine X_push (v := .int 801) rfl (by decide +kernel) ?_
  refine X_newaK 801 rfl rfl (List.mem_of_getElem? (i := 0) rfl) (x_in 131 (by decide +kernel) rfl) (by decide) (by decide +kernel) (by decide) (Nat.le_of_ble_eq_true rfl) (Nat.le_of_ble_eq_true rfl) (Z_new ha (a + 1) rfl ?_)
  refine Z_putF (j := 0) ha f_X8_9 rfl rfl ⟨rfl, rfl⟩ rfl (fun C T n h => by cases h; rfl) ?_
  refine X_ld rfl rfl rfl rfl ?_
  refine X_push (v := .int 801) rfl (by decide +kernel) ?_
  refine X_newaK 801 rfl rfl (List.mem_of_getElem? (i := 0) rfl) (x_in 131 (by decide +kernel) rfl) (by decide) (by decide +kernel) (by decide) (Nat.le_of_ble_eq_true rfl) (Nat.le_of_ble_eq_true rfl) (Z_new ha (a + 2) rfl ?_)
  refine Z_putF (j := 0) ha f_X8_15 rfl rfl ⟨rfl, rfl⟩ rfl (fun C T n h => by cases h; rfl) ?_
  refine X_ld rfl rfl rfl rfl ?_
  refine X_push (v := .int 801) rfl (by decide +kernel) ?_
  refine X_newaK 801 rfl rfl (List.mem_of_getElem? (i := 1) rfl) (x_in 132 (by decide +kernel) rfl) (by decide) (by decide +kernel) (by decide) (Nat.le_of_ble_eq_true rfl) (Nat.le_of_ble_eq_true rfl) (Z_new ha (a + 3) rfl ?_)
  refine Z_putF (j := 0) ha f_X8_18 rfl rfl ⟨rfl, rfl⟩ rfl (fun C T n h => by cases h; rfl) ?_
  refine X_ld rfl rfl rfl rfl ?_
  refine X_push (v := .int 256) rfl (by decide +kernel) ?_
  refine Z_put (j := 0) ha f_X8_22 rfl rfl ⟨rfl, rfl⟩ ?_
  exact X_vret rfl rfl ⟨rfl, rfl⟩ (Nat.le_of_ble_eq_true rfl) (Nat.le_of_ble_eq_true rfl)
theorem z_X5 {G : XE} (hG : x_Kn G) (hK : x_KS G) (hM : x_KM G) {N : XH} (d : Nat) {a : Nat} (ha : 64 ≤ a) : x_M G mX5_init (d + 4) 3 13 [.ref a] (k_at N a [.inl (5, y_dfl tyX5)]) (x_RetV (k_at N a [.inl (5, stV (a + 1) (a + 2) (a + 3) s_pl), .inr (true, .long, 5, fun _ => .long 0), .inr (true, .int, 5, fun _ => .int 0), .inl (0, lV 0 2 0)])) x_noX := by
  refine X_M hG okX5_init rfl (L := [some (.ref a)]) rfl (Nat.le_of_ble_eq_true rfl) (fun ad0 nb0 => ?_)
  refine X_ld rfl rfl rfl rfl ?_
  refine X_obj (x_in 140 (by decide +kernel) rfl) (x_in 93 (by decide +kernel) rfl) (x_in 94 (by decide +kernel) rfl) rfl (by show 1 ≤ d + _; omega) (by show _ ≤ 100 * (d + _); simp; omega) ?_
  refine X_ld rfl rfl rfl rfl ?_
  refine X_push (v := .int 5) rfl (by decide +kernel) ?_
  refine X_newaK 5 rfl rfl (List.mem_of_getElem? (i := 1) rfl) (x_in 132 (by decide +kernel) rfl) (by decide) (by decide +kernel) (by decide) (Nat.le_of_ble_eq_true rfl) (Nat.le_of_ble_eq_true rfl) (Z_new ha (a + 1) rfl ?_)
  refine Z_putF (j := 0) ha f_X5_9 rfl rfl ⟨rfl, rfl⟩ rfl (fun C T n h => by cases h; rfl) ?_
  refine X_ld rfl rfl rfl rfl ?_
  refine X_push (v := .int 5) rfl (by decide +kernel) ?_
  refine X_newaK 5 rfl rfl (List.mem_of_getElem? (i := 0) rfl) (x_in 131 (by decide +kernel) rfl) (by decide) (by decide +kernel) (by decide) (Nat.le_of_ble_eq_true rfl) (Nat.le_of_ble_eq_true rfl) (Z_new ha (a + 2) rfl ?_)
  refine Z_putF (j := 0) ha f_X5_15 rfl rfl ⟨rfl, rfl⟩ rfl (fun C T n h => by cases h; rfl) ?_
  refine X_ld rfl rfl rfl rfl ?_
  refine X_newK n_X5_19 rfl (Nat.le_of_ble_eq_true rfl) (Nat.le_of_ble_eq_true rfl) (Z_new ha (a + 3) rfl ?_)
  refine X_dup rfl rfl ?_
  refine X_icallv l_X5_Jx4a65c_init_da8c8 (j_init hG hK hM d ((z_get (j := 3) ha).trans rfl)) rfl rfl rfl (Nat.le_of_ble_eq_true rfl) (Nat.le_of_ble_eq_true rfl) (by omega) (Nat.le_of_ble_eq_true rfl) (Nat.le_of_ble_eq_true rfl) ?_
  refine X_heap (z_put (j := 3) ha (Nat.le_of_ble_eq_true rfl)) ?_
  refine Z_putF (j := 0) ha f_X5_22 rfl rfl ⟨rfl, rfl⟩ rfl (fun C T n h => by cases h; rfl) ?_
  refine X_ld rfl rfl rfl rfl ?_
  refine X_push (v := .int 1) rfl (by decide +kernel) ?_
  refine Z_put (j := 0) ha f_X5_26 rfl rfl ⟨rfl, rfl⟩ ?_
  refine X_ld rfl rfl rfl rfl ?_
  refine X_push (v := .int 3) rfl (by decide +kernel) ?_
  refine Z_put (j := 0) ha f_X5_30 rfl rfl ⟨rfl, rfl⟩ ?_
  refine X_ld rfl rfl rfl rfl ?_
  refine X_push (v := .int 2) rfl (by decide +kernel) ?_
  refine Z_put (j := 0) ha f_X5_33 rfl rfl ⟨rfl, rfl⟩ ?_
  refine X_ld rfl rfl rfl rfl ?_
  refine X_push (v := .int 3) rfl (by decide +kernel) ?_
  refine Z_put (j := 0) ha f_X5_36 rfl rfl ⟨rfl, rfl⟩ ?_
  refine X_alz (l' := [.inl (5, stV (a + 1) (a + 2) (a + 3) s_pl), .inr (true, .long, 5, fun _ => .long 0), .inr (true, .int, 5, fun _ => .int 0), .inl (0, lV 0 2 0)]) ha ⟨⟨rfl, fun r h => by cases h; exact y_f8 rfl rfl rfl rfl rfl rfl rfl rfl⟩, x_lk_rfl, x_lk_rfl, x_lk_rfl, trivial⟩ ?_
  exact X_vret rfl rfl ⟨rfl, rfl⟩ (Nat.le_of_ble_eq_true rfl) (Nat.le_of_ble_eq_true rfl)
theorem z_f7 {V V' : Nat → Value} (h0 : V 0 = V' 0) (h1 : V 1 = V' 1) (h2 : V 2 = V' 2) (h3 : V 3 = V' 3) (h4 : V 4 = V' 4) (h5 : V 5 = V' 5) (h6 : V 6 = V' 6) : ∀ k, k < 7 → V k = V' k
  | 0, _ => h0
  | 1, _ => h1
  | 2, _ => h2
  | 3, _ => h3
  | 4, _ => h4
  | 5, _ => h5
  | 6, _ => h6
  | k + 7, h => absurd h (by omega)
theorem z_f9 {V V' : Nat → Value} (h0 : V 0 = V' 0) (h1 : V 1 = V' 1) (h2 : V 2 = V' 2) (h3 : V 3 = V' 3) (h4 : V 4 = V' 4) (h5 : V 5 = V' 5) (h6 : V 6 = V' 6) (h7 : V 7 = V' 7) (h8 : V 8 = V' 8) : ∀ k, k < 9 → V k = V' k
  | 0, _ => h0
  | 1, _ => h1
  | 2, _ => h2
  | 3, _ => h3
  | 4, _ => h4
  | 5, _ => h5
  | 6, _ => h6
  | 7, _ => h7
  | 8, _ => h8
  | k + 9, h => absurd h (by omega)
theorem z_f4 {V V' : Nat → Value} (h0 : V 0 = V' 0) (h1 : V 1 = V' 1) (h2 : V 2 = V' 2) (h3 : V 3 = V' 3) : ∀ k, k < 4 → V k = V' k
  | 0, _ => h0
  | 1, _ => h1
  | 2, _ => h2
  | 3, _ => h3
  | k + 4, h => absurd h (by omega)
/-- a row's numbers at the start -/
def s_dz : Nat → Int32 := fun k => if k = 289 ∨ k = 319 ∨ k = 349 ∨ k = 379 ∨ k = 409 ∨ k = 439 then -2 else 0
theorem s_dz0 {k : Nat} (h : ¬ (k = 289 ∨ k = 319 ∨ k = 349 ∨ k = 379 ∨ k = 409 ∨ k = 439)) : s_dz k = 0 := if_neg h
theorem z_cI {n b e x j : Nat} (h : ∀ j, j < n → s_dz (b + e * j + x) = 0) : (Value.int 0) = cI n b e x s_dz j := by
  unfold cI
  by_cases hj : j < n
  · rw [if_pos hj, h j hj]
  · rw [if_neg hj]
/-- a Data's twenty cells at the start -/
def zD (i su : Nat) : List XC := [dcell su s_dz i 0, dcell su s_dz i 1, dcell su s_dz i 2, dcell su s_dz i 3, dcell su s_dz i 4, dcell su s_dz i 5, dcell su s_dz i 6, dcell su s_dz i 7, dcell su s_dz i 8, dcell su s_dz i 9, dcell su s_dz i 10, dcell su s_dz i 11, dcell su s_dz i 12, dcell su s_dz i 13, dcell su s_dz i 14, dcell su s_dz i 15, dcell su s_dz i 16, dcell su s_dz i 17, dcell su s_dz i 18, dcell su s_dz i 19]
/-- a Data's usages, s of them made -/
def zUs (i : Nat) : Nat → List XC
  | 0 => []
  | s + 1 => zUs i s ++ [.inl (9, zU (75 + 20 * i + (8 + 2 * s))), .inr (true, .int, 5, fun _ => .int 0)]
theorem zUs_len {i : Nat} : ∀ s, (zUs i s).length = 2 * s
  | 0 => rfl
  | s + 1 => by
    show (zUs i s ++ [_, _]).length = _
    rw [List.length_append, zUs_len s]
    show 2 * s + 2 = _
    omega
theorem zUs_get {i s : Nat} : (zUs i (s + 1))[2 * s]? = some (.inl (9, zU (75 + 20 * i + (8 + 2 * s)))) := by
  show (zUs i s ++ [_, _])[2 * s]? = _
  rw [List.getElem?_append_right (by rw [zUs_len]; omega), zUs_len, Nat.sub_self]
  rfl
def zV (i su : Nat) : Nat → Value := updV (updV (updV (updV (updV (y_dfl tyX3) 3 (.ref (75 + 20 * i + 1))) 4 (.ref (75 + 20 * i + 2))) 5 (.ref (75 + 20 * i + 3))) 6 (.ref (75 + 20 * i + 7))) 0 (.ref su)
def zE (i su s : Nat) : List XC := [.inl (3, zV i su), .inr (true, .int, 200, fun _ => .int 0), .inr (true, .boolean, 5, fun _ => .int 0), .inl (7, zS (75 + 20 * i + 3)), .inr (true, .int, 5, fun _ => .int 0), .inr (true, .int, 5, fun _ => .int 0), .inr (true, .int, 5, fun _ => .int 0), .inr (true, .object "PreparedPlans$Usage", 6, fun j => if j < s then .ref (75 + 20 * i + (8 + 2 * j)) else .null)]
theorem zE_1 {i s : Nat} : updV (fun j => if j < s then Value.ref (75 + 20 * i + (8 + 2 * j)) else .null) s (.ref (75 + 20 * i + (8 + 2 * s))) = fun j => if j < s + 1 then Value.ref (75 + 20 * i + (8 + 2 * j)) else .null := by
  funext j
  unfold updV
  by_cases h : j = s
  · subst h
    rw [if_pos rfl, if_pos (Nat.lt_succ_self j)]
  · rw [if_neg h]
    show (if j < s then Value.ref (75 + 20 * i + (8 + 2 * j)) else .null) = _
    by_cases h2 : j < s
    · rw [if_pos h2, if_pos (by omega)]
    · rw [if_neg h2, if_neg (by omega)]
theorem z_alD {i su : Nat} : x_lks (zE i su 6 ++ zUs i 6) (zD i su) := ⟨⟨rfl, fun r h => by cases h; exact z_f7 rfl rfl rfl rfl rfl rfl rfl⟩, ⟨⟨rfl, rfl, rfl⟩, fun j hj => z_cI (fun j hj => s_dz0 (by omega))⟩, ⟨⟨rfl, rfl, rfl⟩, fun j hj => z_cI (fun j hj => s_dz0 (by omega))⟩, ⟨rfl, fun r h => by cases h; exact z_f4 rfl rfl rfl rfl⟩, ⟨⟨rfl, rfl, rfl⟩, fun j hj => z_cI (fun j hj => s_dz0 (by omega))⟩, ⟨⟨rfl, rfl, rfl⟩, fun j hj => z_cI (fun j hj => s_dz0 (by omega))⟩, ⟨⟨rfl, rfl, rfl⟩, fun j hj => z_cI (fun j hj => s_dz0 (by omega))⟩, ⟨⟨rfl, rfl, rfl⟩, fun j hj => if_pos hj⟩, ⟨rfl, fun r h => by cases h; exact z_f9 rfl rfl rfl rfl rfl rfl rfl rfl rfl⟩, ⟨⟨rfl, rfl, rfl⟩, fun j hj => z_cI (fun j hj => s_dz0 (by omega))⟩, ⟨rfl, fun r h => by cases h; exact z_f9 rfl rfl rfl rfl rfl rfl rfl rfl rfl⟩, ⟨⟨rfl, rfl, rfl⟩, fun j hj => z_cI (fun j hj => s_dz0 (by omega))⟩, ⟨rfl, fun r h => by cases h; exact z_f9 rfl rfl rfl rfl rfl rfl rfl rfl rfl⟩, ⟨⟨rfl, rfl, rfl⟩, fun j hj => z_cI (fun j hj => s_dz0 (by omega))⟩, ⟨rfl, fun r h => by cases h; exact z_f9 rfl rfl rfl rfl rfl rfl rfl rfl rfl⟩, ⟨⟨rfl, rfl, rfl⟩, fun j hj => z_cI (fun j hj => s_dz0 (by omega))⟩, ⟨rfl, fun r h => by cases h; exact z_f9 rfl rfl rfl rfl rfl rfl rfl rfl rfl⟩, ⟨⟨rfl, rfl, rfl⟩, fun j hj => z_cI (fun j hj => s_dz0 (by omega))⟩, ⟨rfl, fun r h => by cases h; exact z_f9 rfl rfl rfl rfl rfl rfl rfl rfl rfl⟩, ⟨⟨rfl, rfl, rfl⟩, fun j hj => z_cI (fun j hj => s_dz0 (by omega))⟩, trivial⟩
theorem z_X3 {G : XE} (hG : x_Kn G) {N : XH} (d : Nat) (i su : Nat) : x_M G mX3_init (d + 2) 19 314 [.ref (75 + 20 * i), .ref su] (k_at N (75 + 20 * i) [.inl (3, y_dfl tyX3)]) (x_RetV (k_at N (75 + 20 * i) (zD i su))) x_noX := by
  refine X_M hG okX3_init rfl (L := [some (.ref (75 + 20 * i)), some (.ref su), none]) rfl (Nat.le_of_ble_eq_true rfl) (fun ad0 nb0 => ?_)
  have ha : 64 ≤ 75 + 20 * i := by omega
  refine X_ld rfl rfl rfl rfl ?_
  refine X_obj (x_in 214 (by decide +kernel) rfl) (x_in 93 (by decide +kernel) rfl) (x_in 94 (by decide +kernel) rfl) rfl (by show 1 ≤ d + _; omega) (by show _ ≤ 100 * (d + _); simp; omega) ?_
  refine X_ld rfl rfl rfl rfl ?_
  refine X_push (v := .int 200) rfl (by decide +kernel) ?_
  refine X_newaK 200 rfl rfl (List.mem_of_getElem? (i := 0) rfl) (x_in 131 (by decide +kernel) rfl) (by decide) (by decide +kernel) (by decide) (Nat.le_of_ble_eq_true rfl) (Nat.le_of_ble_eq_true rfl) (Z_new ha (75 + 20 * i + 1) rfl ?_)
  refine Z_putF (j := 0) ha f_X3_9 rfl rfl ⟨rfl, rfl⟩ rfl (fun C T n h => by cases h; rfl) ?_
  refine X_ld rfl rfl rfl rfl ?_
  refine X_push (v := .int 5) rfl (by decide +kernel) ?_
  refine X_newaK 5 rfl rfl (List.mem_of_getElem? (i := 3) rfl) (x_in 242 (by decide +kernel) rfl) (by decide) (by decide +kernel) (by decide) (Nat.le_of_ble_eq_true rfl) (Nat.le_of_ble_eq_true rfl) (Z_new ha (75 + 20 * i + 2) rfl ?_)
  refine Z_putF (j := 0) ha f_X3_15 rfl rfl ⟨rfl, rfl⟩ rfl (fun C T n h => by cases h; rfl) ?_
  refine X_ld rfl rfl rfl rfl ?_
  refine X_newK n_X3_19 rfl (Nat.le_of_ble_eq_true rfl) (Nat.le_of_ble_eq_true rfl) (Z_new ha (75 + 20 * i + 3) rfl ?_)
  refine X_dup rfl rfl ?_
  refine X_heap (z_app ha (f := 75 + 20 * i + 3) rfl) ?_
  refine X_icallNv l_X3_X7_init (z_X7 hG d (a := 75 + 20 * i + 3) (by omega)) rfl rfl rfl (Nat.le_of_ble_eq_true rfl) (Nat.le_of_ble_eq_true rfl) (by omega) (Nat.le_of_ble_eq_true rfl) (Nat.le_of_ble_eq_true rfl) ?_
  refine X_heap (z_app ha rfl).symm ?_
  refine Z_putF (j := 0) ha f_X3_22 rfl rfl ⟨rfl, rfl⟩ rfl (fun C T n h => by cases h; rfl) ?_
  refine X_ld rfl rfl rfl rfl ?_
  refine X_push (v := .int 6) rfl (by decide +kernel) ?_
  refine X_anewK 6 rfl (List.mem_of_getElem? (i := 5) rfl) (x_in 243 (by decide +kernel) rfl) (List.mem_of_getElem? (i := 244) (by decide +kernel)) (by decide) (by decide +kernel) (by decide) (Nat.le_of_ble_eq_true rfl) (Nat.le_of_ble_eq_true rfl) (Z_new ha (75 + 20 * i + 7) rfl ?_)
  refine Z_putF (j := 0) ha f_X3_28 rfl rfl ⟨rfl, rfl⟩ rfl (fun C T n h => by cases h; rfl) ?_
  refine X_ld rfl rfl rfl rfl ?_
  refine X_ld rfl rfl rfl rfl ?_
  refine Z_put (j := 0) ha f_X3_32 rfl rfl ⟨rfl, rfl⟩ ?_
  refine X_push (v := .int 0) rfl (by decide +kernel) ?_
  refine X_st rfl rfl rfl ?_
  refine X_alz (l' := zE i su 0 ++ zUs i 0) ha ⟨x_lk_rfl, x_lk_rfl, x_lk_rfl, x_lk_rfl, x_lk_rfl, x_lk_rfl, x_lk_rfl, ⟨⟨rfl, rfl, rfl⟩, fun j _ => (if_neg (Nat.not_lt_zero j)).symm⟩, trivial⟩ ?_
  refine X_loc (L' := [some (.ref (75 + 20 * i)), some (.ref su), some (.int (nI 0))]) ⟨rfl, rfl, rfl, trivial⟩ ?_
  have loop : ∀ (f s : Nat), s + f = 6 → x_W G mX3_init (x_Z G (d + 2) 19 314 ad0 nb0 (x_RetV (k_at N (75 + 20 * i) (zD i su))) x_noX) (k_at N (75 + 20 * i) (zE i su s ++ zUs i s)) (7 + 2 * s) (230 + 14 * s) 47 [some (.ref (75 + 20 * i)), some (.ref su), some (.int (nI s))] [] := by
    intro f
    induction f with
    | zero =>
      intro s hs
      obtain rfl : s = 6 := by omega
      refine X_ld rfl rfl rfl rfl ?_
      refine X_push (v := .int 6) rfl (by decide +kernel) ?_
      refine X_icmp_ge rfl (fun _ => ?_) (fun q => absurd (by decide) q)
      refine X_alz (l' := zD i su) ha z_alD ?_
      exact X_vret rfl rfl ⟨rfl, rfl⟩ (Nat.le_of_ble_eq_true rfl) (Nat.le_of_ble_eq_true rfl)
    | succ f ih =>
      intro s hs
      refine X_ld rfl rfl rfl rfl ?_
      refine X_push (v := .int 6) rfl (by decide +kernel) ?_
      refine X_icmp_ge rfl (fun q => absurd ((n_le (a := 6) (show (6 : Int32) = nI 6 from rfl) rfl (by omega) (by omega)).mp q) (by omega)) (fun _ => ?_)
      refine X_ld rfl rfl rfl rfl ?_
      refine X_get f_X3_28 rfl ((z_get (j := 0) ha).trans rfl) (v := .ref (75 + 20 * i + 7)) rfl ?_
      refine X_ld rfl rfl rfl rfl ?_
      refine X_newK n_X3_26 rfl (by show _ ≤ 19; omega) (by show _ ≤ 314; omega) (Z_new ha (75 + 20 * i + (8 + 2 * s)) (by rw [List.length_append, zUs_len]; rfl) ?_)
      refine X_dup rfl rfl ?_
      refine X_heap (z_app ha (f := 75 + 20 * i + (8 + 2 * s)) (by rw [List.length_append, zUs_len]; rfl)) ?_
      refine X_icallNv l_X3_X9_init (z_X9 hG d (a := 75 + 20 * i + (8 + 2 * s)) (by omega)) rfl rfl rfl (Nat.le_of_ble_eq_true rfl) (Nat.le_of_ble_eq_true rfl) (by omega) (by omega) (by omega) ?_
      refine X_heap (z_app ha (by rw [List.length_append, zUs_len]; rfl)).symm ?_
      refine X_heap (N' := k_at N (75 + 20 * i) (zE i su s ++ zUs i (s + 1))) (by rw [List.append_assoc]; rfl) ?_
      have e20 : (zE i su s ++ zUs i (s + 1))[8 + 2 * s]? = some (.inl (9, zU (75 + 20 * i + (8 + 2 * s)))) := by
        rw [List.getElem?_append_right (by show 8 ≤ _; omega)]
        show (zUs i (s + 1))[8 + 2 * s - 8]? = _
        rw [Nat.add_sub_cancel_left]
        exact zUs_get
      refine Z_aast (j := 7) (i := 8 + 2 * s) (n := 6) (F := fun j => if j < s then .ref (75 + 20 * i + (8 + 2 * j)) else .null) ha rfl rfl e20 rfl (vp_in_nI (by omega) (by omega)) rfl ?_
      rw [nI_clamp (by omega), zE_1]
      refine X_heap (N' := k_at N (75 + 20 * i) (zE i su (s + 1) ++ zUs i (s + 1))) rfl ?_
      refine X_iinc rfl rfl rfl ?_
      refine X_goto rfl ?_
      refine X_loc (L' := [some (.ref (75 + 20 * i)), some (.ref su), some (.int (nI (s + 1)))]) ⟨rfl, rfl, congrArg Value.int (m_inc rfl).symm, trivial⟩ ?_
      refine X_room (by omega) (by omega) (ih (s + 1) (by omega))
  exact loop 6 0 rfl

