/-! ===== the law: its numbers, its text (wip/p26/gen_h3.py) ===== -/
theorem sb_low {b o q j : Nat} {N0 N : XH} {l : List Int32} {c : XC} (hj : j < b) (h : sb b N0 o q l N) : sb b (x_set N0 j c) o q l (x_set N j c) := by
  obtain ⟨⟨h1, h2⟩, v, m, f, ⟨h3, h4⟩, h5, h6, h7, h8, h9⟩ := h
  refine ⟨⟨fun k hk => ?_, h2⟩, v, m, f, ⟨h3, h4⟩, (x_set_ne (by omega)).trans h5, (x_set_ne (by omega)).trans h6, h7, h8, h9⟩
  by_cases e : k = j
  · rw [e, x_set_eq, x_set_eq]
  · rw [x_set_ne e, x_set_ne e]
    exact h1 k hk
section LAWT
variable {G : XE} {ad0 : Nat → Nat} {N0 N : XH} {cells slots pc pc' t o : Nat} {L : List (Option Value)} {rest : List Value} {lt : List Int32}
theorem X_apS (hG : x_Kn G) (hK : x_KS G) {i : Nat} (hi : i < 26) (hl : lt.length + (x_st i).length ≤ 300) (hsb : sb 278 N0 o 0 lt N) (h0 : N0 0 = none) (hd : x_at (x_k mL_lw) pc = some (.invokevirtual 196, pc', t)) (hrest : (rest.map fun v => v.category).sum ≤ 8) (h1 : cells + 1 ≤ 604330) (h2 : slots + 602 ≤ 7288780) (kk : ∀ N', sb 278 N0 o 0 (lt ++ x_st i) N' → x_W G mL_lw (L_Z G ad0 64) N' (cells + 1) (slots + 602) pc' L (.ref o :: rest)) : x_W G mL_lw (L_Z G ad0 64) N cells slots pc L (.ref (4 + i) :: .ref o :: rest) := by
  obtain ⟨-, v, m, f, -, hNo, -⟩ := id hsb
  refine X_lvP hNo l_L_J4_append_15ec4 (j_apS hG hK 20 (by decide) h0 hsb hi hl) hd rfl rfl rfl hrest (Nat.le_of_ble_eq_true rfl) (by omega) h1 h2 (fun N9 E9 h9 => h9) (fun N9 r9 h9 => ?_)
  obtain ⟨rfl, h9⟩ := h9
  exact kk N9 h9
theorem X_apC (hG : x_Kn G) (hK : x_KS G) {x : Int32} (hx : 0 ≤ x ∧ x ≤ 127) (hl : lt.length + 1 ≤ 300) (hsb : sb 278 N0 o 0 lt N) (h0 : N0 0 = none) (hd : x_at (x_k mL_lw) pc = some (.invokevirtual 202, pc', t)) (hrest : (rest.map fun v => v.category).sum ≤ 8) (h1 : cells + 1 ≤ 604330) (h2 : slots + 602 ≤ 7288780) (kk : ∀ N', sb 278 N0 o 0 (lt ++ [x]) N' → x_W G mL_lw (L_Z G ad0 64) N' (cells + 1) (slots + 602) pc' L (.ref o :: rest)) : x_W G mL_lw (L_Z G ad0 64) N cells slots pc L (.int x :: .ref o :: rest) := by
  obtain ⟨-, v, m, f, -, hNo, -⟩ := id hsb
  refine X_lvP hNo l_L_J4_append_cf468 (j_apC hG hK 20 (by decide) h0 hsb hx hl) hd rfl rfl rfl hrest (Nat.le_of_ble_eq_true rfl) (by omega) h1 h2 (fun N9 E9 h9 => h9) (fun N9 r9 h9 => ?_)
  obtain ⟨rfl, h9⟩ := h9
  exact kk N9 h9
theorem X_apI (hG : x_Kn G) (hK : x_KS G) (hD : x_KD G) {k : Nat} (hk : k < 12) (hl : lt.length + 2 ≤ 300) (hsb : sb 278 N0 o 0 lt N) (h0 : N0 0 = none) (hd : x_at (x_k mL_lw) pc = some (.invokevirtual 199, pc', t)) (hrest : (rest.map fun v => v.category).sum ≤ 8) (h1 : cells + 1 ≤ 604330) (h2 : slots + 602 ≤ 7288780) (kk : ∀ N', sb 278 N0 o 0 (lt ++ dg k) N' → x_W G mL_lw (L_Z G ad0 64) N' (cells + 1) (slots + 602) pc' L (.ref o :: rest)) : x_W G mL_lw (L_Z G ad0 64) N cells slots pc L (.int (nI k) :: .ref o :: rest) := by
  obtain ⟨-, v, m, f, -, hNo, -⟩ := id hsb
  refine X_lvP hNo l_L_J4_append_bf812 (j_apI hG hK 20 hD (by decide) h0 hsb hk hl) hd rfl rfl rfl hrest (Nat.le_of_ble_eq_true rfl) (by omega) h1 h2 (fun N9 E9 h9 => h9) (fun N9 r9 h9 => ?_)
  obtain ⟨rfl, h9⟩ := h9
  exact kk N9 h9
end LAWT
def q_xe (n : Nat) (xs : Nat → Int32) (k : Nat) (z : Int32) : Int32 := e_cell n xs (4 + k % 6) >>> (z &&& 31)
def q_xa (n : Nat) (xs : Nat → Int32) (k : Nat) : Nat := n_ (e_bnd (q_xe n xs k (4 * (nI k / 6))) 12)
def q_xb (n : Nat) (xs : Nat → Int32) (k : Nat) : Nat := n_ (e_bnd (q_xe n xs k (4 * (nI k / 6) + 2)) 4)
theorem q_xa_e {n k : Nat} {xs : Nat → Int32} : q_xa n xs k < 12 ∧ e_bnd (q_xe n xs k (4 * (nI k / 6))) 12 = nI (q_xa n xs k) := by
  obtain ⟨r, h1, h2⟩ := e_bnd_lt (q_xe n xs k (4 * (nI k / 6))) (y := 12) (n := 12) rfl (by decide) (by decide)
  have h3 : q_xa n xs k = r := n_of h2 (by omega)
  rw [h3]
  exact ⟨h1, h2⟩
theorem q_xb_e {n k : Nat} {xs : Nat → Int32} : q_xb n xs k < 4 ∧ e_bnd (q_xe n xs k (4 * (nI k / 6) + 2)) 4 = nI (q_xb n xs k) := by
  obtain ⟨r, h1, h2⟩ := e_bnd_lt (q_xe n xs k (4 * (nI k / 6) + 2)) (y := 4) (n := 4) rfl (by decide) (by decide)
  have h3 : q_xb n xs k = r := n_of h2 (by omega)
  rw [h3]
  exact ⟨h1, h2⟩
theorem q_mod6 {k : Nat} (hk : k < 12) : (4 : Int32) + (nI k - nI k / 6 * 6) = nI (4 + k % 6) := (show ∀ k, k < 12 → (4 : Int32) + (nI k - nI k / 6 * 6) = nI (4 + k % 6) by decide +kernel) k hk
def q_z : Nat → Int32 := fun _ => 0
theorem q_al1 {n : Nat} {xs : Nat → Int32} : ∀ k c', e_B (q_M0 n xs) qF0 q_z q_z k = some c' → ∃ c, k_at (q_M0 n xs) 275 [.inl (11, q_vL), q_aZ, q_aZ] k = some c ∧ x_lk c c' := by
  intro k c' h
  by_cases h5 : 275 ≤ k ∧ k ≤ 277
  · rcases (show k = 275 ∨ k = 276 ∨ k = 277 by omega) with e | e | e <;> subst e
    · rw [e_B_5] at h
      obtain rfl := Option.some.inj h
      refine ⟨_, rfl, rfl, fun r hr j hj => ?_⟩
      cases hr
      match j, hj with
      | 0, _ => rfl
      | 1, _ => rfl
      | 2, _ => rfl
      | 3, _ => rfl
      | 4, _ => rfl
      | 5, _ => rfl
      | 6, _ => rfl
      | 7, _ => rfl
      | 8, _ => rfl
      | 9, _ => rfl
      | 10, _ => rfl
      | 11, _ => rfl
      | 12, _ => rfl
      | 13, _ => rfl
      | 14, _ => rfl
      | 15, _ => rfl
      | 16, _ => rfl
      | 17, _ => rfl
      | 18, _ => rfl
      | 19, _ => rfl
      | 20, _ => rfl
      | j + 21, hj => exact absurd hj (by show ¬ (j + 21 < 21); omega)
    · rw [e_B_6] at h
      obtain rfl := Option.some.inj h
      exact ⟨_, rfl, x_lk_rfl⟩
    · rw [e_B_7] at h
      obtain rfl := Option.some.inj h
      exact ⟨_, rfl, x_lk_rfl⟩
  · rw [e_B_o (by omega)] at h
    have hk : k = 1 ∨ k = 56 := by
      by_cases e1 : k = 1
      · exact Or.inl e1
      · by_cases e2 : k = 56
        · exact Or.inr e2
        · rw [q_M0_none e1 e2] at h; cases h
    refine ⟨c', ?_, x_lk_rfl⟩
    unfold k_at
    rw [if_neg (by omega), if_pos (by omega)]
    exact h
theorem q_x12 {n : Nat} {xs : Nat → Int32} : ∀ k, q_xa n xs k < 12 ∧ q_xb n xs k < 12 := fun k => ⟨q_xa_e.1, Nat.lt_trans q_xb_e.1 (by decide)⟩
theorem law_A3 {G : XE} (hG : x_Kn G) (hX : x_KX G) (hK : x_KS G) (hM : x_KM G) (hD : x_KD G) {ad0 : Nat → Nat} {n : Nat} {xs : Nat → Int32} (hn : n < 2147483648) {m oo sc pr fe tr : Nat} {l : Bool} (hm : m ≤ 12) (h0 : oo < 4) (h1 : sc < 12) (h2 : pr < 12) (h3 : fe < 12) (h4 : tr < 12) {o : Nat} {N : XH} (hsb : sb 278 (e_B (q_M0 n xs) (qF m sc pr fe tr) (qA (q_xa n xs) m) (qA (q_xb n xs) m)) o 0 (q_rows (q_xa n xs) (q_xb n xs) m) N) : x_W G mL_lw (L_Z G ad0 64) N (100) (50000) 238 [some (.ref 56), some (.ref 275), some (.int (b2 l)), some (.int (nI oo)), some (.ref o), some (.int (nI m)), none] [] := by
  have hr := (q_rows_lat (q_x12 (n := n) (xs := xs)) m).2
  have e2 : (x_st 2).length = 12 := rfl
  have e3 : (x_st 3).length = 14 := rfl
  have e4 : (x_st 4).length = 6 := rfl
  have e5 : (x_st 5).length = 7 := rfl
  have d0 := (lat_dg (Nat.lt_of_lt_of_le h0 (show 4 ≤ 12 by decide))).2
  have d1 := (lat_dg h1).2
  have d2 := (lat_dg h2).2
  have d3 := (lat_dg h3).2
  have d4 := (lat_dg h4).2
  have hb0 : (e_B (q_M0 n xs) (qF m sc pr fe tr) (qA (q_xa n xs) m) (qA (q_xb n xs) m)) 0 = none := (e_B_o (by decide)).trans rfl
  refine X_ld aL_238 rfl rfl rfl ?_
  refine X_ldcS (i := 2) hK (List.mem_of_getElem? (i := 2) rfl) (by decide) aL_240 ?_
  refine X_apS hG hK (i := 2) (by decide) (by simp only [List.length_append, List.length_cons, List.length_nil, e2, e3, e4, e5]; omega) hsb hb0 aL_242 (Nat.le_of_ble_eq_true rfl) (by omega) (by omega) (fun N1 hs1 => ?_)
  have tail : x_W G mL_lw (L_Z G ad0 64) N1 (100 + 1) (50000 + 602) 256 [some (.ref 56), some (.ref 275), some (.int (b2 l)), some (.int (nI oo)), some (.ref o), some (.int (nI m)), none] [.int (md_s l), .ref o] := by
    refine X_apC hG hK (x := md_s l) (by cases l <;> decide) (by simp only [List.length_append, List.length_cons, List.length_nil, e2, e3, e4, e5]; omega) hs1 hb0 aL_256 (Nat.le_of_ble_eq_true rfl) (by omega) (by omega) (fun N2 hs2 => ?_)
    refine X_ldcS (i := 3) hK (List.mem_of_getElem? (i := 3) rfl) (by decide) aL_259 ?_
    refine X_apS hG hK (i := 3) (by decide) (by simp only [List.length_append, List.length_cons, List.length_nil, e2, e3, e4, e5]; omega) hs2 hb0 aL_261 (Nat.le_of_ble_eq_true rfl) (by omega) (by omega) (fun N3 hs3 => ?_)
    refine X_ld aL_264 rfl rfl rfl ?_
    refine X_apI hG hK hD (k := oo) (Nat.lt_of_lt_of_le h0 (by decide)) (by simp only [List.length_append, List.length_cons, List.length_nil, e2, e3, e4, e5]; omega) hs3 hb0 aL_265 (Nat.le_of_ble_eq_true rfl) (by omega) (by omega) (fun N4 hs4 => ?_)
    refine X_ldcS (i := 4) hK (List.mem_of_getElem? (i := 4) rfl) (by decide) aL_268 ?_
    refine X_apS hG hK (i := 4) (by decide) (by simp only [List.length_append, List.length_cons, List.length_nil, e2, e3, e4, e5]; omega) hs4 hb0 aL_270 (Nat.le_of_ble_eq_true rfl) (by omega) (by omega) (fun N5 hs5 => ?_)
    have hN5 : N5 275 = some (e_O (qF m sc pr fe tr)) := (hs5.1.1 275 (by decide)).trans e_B_5
    refine X_ld aL_273 rfl rfl rfl ?_
    refine X_get f_L_77 aL_274 (hN5) rfl ?_
    refine X_apI hG hK hD (k := sc) h1 (by simp only [List.length_append, List.length_cons, List.length_nil, e2, e3, e4, e5]; omega) hs5 hb0 aL_277 (Nat.le_of_ble_eq_true rfl) (by omega) (by omega) (fun N6 hs6 => ?_)
    refine X_push (v := .int 32) aL_280 (by decide +kernel) ?_
    refine X_apC hG hK (x := 32) (by decide) (by simp only [List.length_append, List.length_cons, List.length_nil, e2, e3, e4, e5]; omega) hs6 hb0 aL_282 (Nat.le_of_ble_eq_true rfl) (by omega) (by omega) (fun N7 hs7 => ?_)
    have hN5 : N7 275 = some (e_O (qF m sc pr fe tr)) := (hs7.1.1 275 (by decide)).trans e_B_5
    refine X_ld aL_285 rfl rfl rfl ?_
    refine X_get f_L_68 aL_286 (hN5) rfl ?_
    refine X_apI hG hK hD (k := pr) h2 (by simp only [List.length_append, List.length_cons, List.length_nil, e2, e3, e4, e5]; omega) hs7 hb0 aL_289 (Nat.le_of_ble_eq_true rfl) (by omega) (by omega) (fun N8 hs8 => ?_)
    refine X_push (v := .int 32) aL_292 (by decide +kernel) ?_
    refine X_apC hG hK (x := 32) (by decide) (by simp only [List.length_append, List.length_cons, List.length_nil, e2, e3, e4, e5]; omega) hs8 hb0 aL_294 (Nat.le_of_ble_eq_true rfl) (by omega) (by omega) (fun N9 hs9 => ?_)
    have hN5 : N9 275 = some (e_O (qF m sc pr fe tr)) := (hs9.1.1 275 (by decide)).trans e_B_5
    refine X_ld aL_297 rfl rfl rfl ?_
    refine X_get f_L_71 aL_298 (hN5) rfl ?_
    refine X_apI hG hK hD (k := fe) h3 (by simp only [List.length_append, List.length_cons, List.length_nil, e2, e3, e4, e5]; omega) hs9 hb0 aL_301 (Nat.le_of_ble_eq_true rfl) (by omega) (by omega) (fun N10 hs10 => ?_)
    refine X_ldcS (i := 5) hK (List.mem_of_getElem? (i := 5) rfl) (by decide) aL_304 ?_
    refine X_apS hG hK (i := 5) (by decide) (by simp only [List.length_append, List.length_cons, List.length_nil, e2, e3, e4, e5]; omega) hs10 hb0 aL_306 (Nat.le_of_ble_eq_true rfl) (by omega) (by omega) (fun N11 hs11 => ?_)
    have hN5 : N11 275 = some (e_O (qF m sc pr fe tr)) := (hs11.1.1 275 (by decide)).trans e_B_5
    refine X_ld aL_309 rfl rfl rfl ?_
    refine X_get f_L_98 aL_310 (hN5) rfl ?_
    refine X_apI hG hK hD (k := tr) h4 (by simp only [List.length_append, List.length_cons, List.length_nil, e2, e3, e4, e5]; omega) hs11 hb0 aL_313 (Nat.le_of_ble_eq_true rfl) (by omega) (by omega) (fun N12 hs12 => ?_)
    refine X_push (v := .int 59) aL_316 (by decide +kernel) ?_
    refine X_apC hG hK (x := 59) (by decide) (by simp only [List.length_append, List.length_cons, List.length_nil, e2, e3, e4, e5]; omega) hs12 hb0 aL_318 (Nat.le_of_ble_eq_true rfl) (by omega) (by omega) (fun N13 hs13 => ?_)
    refine X_pop aL_321 rfl ?_
    exact X_room (by omega) (by omega) (law_B1 hG hX hK hM hn q_x12 hm h0 h1 h2 h3 h4 hs13)
  refine X_ld aL_245 rfl rfl rfl ?_
  refine X_if_eq aL_246 (fun c => ?_) (fun c => ?_)
  · have el := b2_0 c
    subst el
    refine X_push (v := .int 61) aL_254 (by decide +kernel) ?_
    exact tail
  · have el := b2_1 c
    subst el
    refine X_push (v := .int 60) aL_249 (by decide +kernel) ?_
    refine X_goto aL_251 ?_
    exact tail
theorem law_A2 {G : XE} (hG : x_Kn G) (hX : x_KX G) (hK : x_KS G) (hM : x_KM G) (hD : x_KD G) {ad0 : Nat → Nat} {n : Nat} {xs : Nat → Int32} (hn : n < 2147483648) {m oo sc pr fe tr : Nat} {l : Bool} (hm : m ≤ 12) (h0 : oo < 4) (h1 : sc < 12) (h2 : pr < 12) (h3 : fe < 12) (h4 : tr < 12) {o : Nat} : ∀ f k N, k + f = m → sb 278 (e_B (q_M0 n xs) (qF m sc pr fe tr) (qA (q_xa n xs) k) (qA (q_xb n xs) k)) o 0 (q_rows (q_xa n xs) (q_xb n xs) k) N → x_W G mL_lw (L_Z G ad0 64) N (10 + 6 * k) (1000 + 3100 * k) 122 [some (.ref 56), some (.ref 275), some (.int (b2 l)), some (.int (nI oo)), some (.ref o), some (.int (nI k)), none] []
  | 0, k, N, e0, hsb => by
    have e9 : k = m := by omega
    subst e9
    have hN5 : N 275 = some (e_O (qF k sc pr fe tr)) := (hsb.1.1 275 (by decide)).trans e_B_5
    refine X_ld aL_122 rfl rfl rfl ?_
    refine X_ld aL_124 rfl rfl rfl ?_
    refine X_get f_L_44 aL_125 hN5 rfl ?_
    refine X_icmp_ge aL_128 (fun _ => ?_) (fun c => absurd (Int32.le_refl _) c)
    exact X_room (by omega) (by omega) (law_A3 hG hX hK hM hD hn hm h0 h1 h2 h3 h4 hsb)
  | f + 1, k, N, e0, hsb => by
    have hkm : k < m := by omega
    have hN5 : N 275 = some (e_O (qF m sc pr fe tr)) := (hsb.1.1 275 (by decide)).trans e_B_5
    have hr := (q_rows_lat (q_x12 (n := n) (xs := xs)) k).2
    have e1 : (x_st 1).length = 4 := rfl
    have da := (lat_dg (q_x12 (n := n) (xs := xs) k).1).2
    have db := (lat_dg (q_x12 (n := n) (xs := xs) k).2).2
    refine X_ld aL_122 rfl rfl rfl ?_
    refine X_ld aL_124 rfl rfl rfl ?_
    refine X_get f_L_44 aL_125 hN5 rfl ?_
    refine X_icmp_ge aL_128 (fun c => absurd ((n_le (show (qF m sc pr fe tr) (0 + 2) = nI m from rfl) rfl (by omega) (by omega)).mp c) (by omega)) (fun _ => ?_)
    refine X_ld aL_131 rfl rfl rfl ?_
    refine X_get f_L_7 aL_132 hN5 rfl ?_
    refine X_ld aL_135 rfl rfl rfl ?_
    refine X_ld aL_137 rfl rfl rfl ?_
    refine X_push (v := .int 4) aL_138 (by decide +kernel) ?_
    refine X_ld aL_139 rfl rfl rfl ?_
    refine X_push (v := .int 6) aL_141 (by decide +kernel) ?_
    refine X_irem aL_143 (by decide) ?_
    refine X_bin aL_144 rfl ?_
    refine X_stk (st' := [.int (nI (4 + k % 6)), .ref 56, .int (nI k), .ref 276]) (congrArg (fun z => [Value.int z, .ref 56, .int (nI k), .ref 276]) (q_mod6 (by omega))) ?_
    refine X_ls l_L_L_cell (v_cell hG 20 ((hsb.1.1 56 (by decide)).trans ((e_B_o (by decide)).trans rfl)) hn (k := 4 + k % 6) (by omega)) aL_145 rfl rfl (Nat.le_of_ble_eq_true rfl) (Nat.le_of_ble_eq_true rfl) (by omega) (by omega) (by omega) ?_
    refine X_push (v := .int 4) aL_148 (by decide +kernel) ?_
    refine X_ld aL_149 rfl rfl rfl ?_
    refine X_push (v := .int 6) aL_151 (by decide +kernel) ?_
    refine X_idiv aL_153 (by decide) ?_
    refine X_bin aL_154 rfl ?_
    refine X_bin aL_155 rfl ?_
    refine X_push (v := .int 12) aL_156 (by decide +kernel) ?_
    refine X_ls l_L_L_bound (v_bound hG 20 (y := 12) (by decide)) aL_158 rfl rfl (Nat.le_of_ble_eq_true rfl) (Nat.le_of_ble_eq_true rfl) (by omega) (by omega) (by omega) ?_
    refine X_stk (st' := [.int (nI (q_xa n xs k)), .int (nI k), .ref 276]) (congrArg (fun z => [Value.int z, .int (nI k), .ref 276]) q_xa_e.2) ?_
    refine X_iast aL_161 ((hsb.1.1 276 (by decide)).trans e_B_6) (vp_in_nI (by omega) (by omega)) ?_
    rw [nI_clamp (by omega), updV_int, qA_s]
    have hs1 : sb 278 (e_B (q_M0 n xs) (qF m sc pr fe tr) (qA (q_xa n xs) (k + 1)) (qA (q_xb n xs) k)) o 0 (q_rows (q_xa n xs) (q_xb n xs) k) (x_set N 276 (e_A (qA (q_xa n xs) (k + 1)))) := by
      rw [← e_B_setA (A := qA (q_xa n xs) k)]
      exact sb_low (by decide) hsb
    change x_W G mL_lw (L_Z G ad0 64) (x_set N 276 (e_A (qA (q_xa n xs) (k + 1)))) _ _ 162 _ _
    generalize hN1 : (x_set N 276 (e_A (qA (q_xa n xs) (k + 1)))) = N1 at hs1 ⊢
    clear hN1 hN5 hsb
    have hN5 : N1 275 = some (e_O (qF m sc pr fe tr)) := (hs1.1.1 275 (by decide)).trans e_B_5
    refine X_ld aL_162 rfl rfl rfl ?_
    refine X_get f_L_13 aL_163 hN5 rfl ?_
    refine X_ld aL_166 rfl rfl rfl ?_
    refine X_ld aL_168 rfl rfl rfl ?_
    refine X_push (v := .int 4) aL_169 (by decide +kernel) ?_
    refine X_ld aL_170 rfl rfl rfl ?_
    refine X_push (v := .int 6) aL_172 (by decide +kernel) ?_
    refine X_irem aL_174 (by decide) ?_
    refine X_bin aL_175 rfl ?_
    refine X_stk (st' := [.int (nI (4 + k % 6)), .ref 56, .int (nI k), .ref 277]) (congrArg (fun z => [Value.int z, .ref 56, .int (nI k), .ref 277]) (q_mod6 (by omega))) ?_
    refine X_ls l_L_L_cell (v_cell hG 20 ((hs1.1.1 56 (by decide)).trans ((e_B_o (by decide)).trans rfl)) hn (k := 4 + k % 6) (by omega)) aL_176 rfl rfl (Nat.le_of_ble_eq_true rfl) (Nat.le_of_ble_eq_true rfl) (by omega) (by omega) (by omega) ?_
    refine X_push (v := .int 4) aL_179 (by decide +kernel) ?_
    refine X_ld aL_180 rfl rfl rfl ?_
    refine X_push (v := .int 6) aL_182 (by decide +kernel) ?_
    refine X_idiv aL_184 (by decide) ?_
    refine X_bin aL_185 rfl ?_
    refine X_push (v := .int 2) aL_186 (by decide +kernel) ?_
    refine X_bin aL_187 rfl ?_
    refine X_bin aL_188 rfl ?_
    refine X_push (v := .int 4) aL_189 (by decide +kernel) ?_
    refine X_ls l_L_L_bound (v_bound hG 20 (y := 4) (by decide)) aL_190 rfl rfl (Nat.le_of_ble_eq_true rfl) (Nat.le_of_ble_eq_true rfl) (by omega) (by omega) (by omega) ?_
    refine X_stk (st' := [.int (nI (q_xb n xs k)), .int (nI k), .ref 277]) (congrArg (fun z => [Value.int z, .int (nI k), .ref 277]) q_xb_e.2) ?_
    refine X_iast aL_193 ((hs1.1.1 277 (by decide)).trans e_B_7) (vp_in_nI (by omega) (by omega)) ?_
    rw [nI_clamp (by omega), updV_int, qA_s]
    have hs2 : sb 278 (e_B (q_M0 n xs) (qF m sc pr fe tr) (qA (q_xa n xs) (k + 1)) (qA (q_xb n xs) (k + 1))) o 0 (q_rows (q_xa n xs) (q_xb n xs) k) (x_set N1 277 (e_A (qA (q_xb n xs) (k + 1)))) := by
      rw [← e_B_setC (C := qA (q_xb n xs) k)]
      exact sb_low (by decide) hs1
    change x_W G mL_lw (L_Z G ad0 64) (x_set N1 277 (e_A (qA (q_xb n xs) (k + 1)))) _ _ 194 _ _
    generalize hN2 : (x_set N1 277 (e_A (qA (q_xb n xs) (k + 1)))) = N2 at hs2 ⊢
    clear hN2 hN5 hs1
    have hb0 : (e_B (q_M0 n xs) (qF m sc pr fe tr) (qA (q_xa n xs) (k + 1)) (qA (q_xb n xs) (k + 1))) 0 = none := (e_B_o (by decide)).trans rfl
    refine X_ld aL_194 rfl rfl rfl ?_
    refine X_ldcS (i := 1) hK (List.mem_of_getElem? (i := 1) rfl) (by decide) aL_196 ?_
    refine X_apS hG hK (i := 1) (by decide) (by simp only [List.length_append, List.length_cons, List.length_nil, e1]; omega) hs2 hb0 aL_198 (Nat.le_of_ble_eq_true rfl) (by omega) (by omega) (fun N3 hs3 => ?_)
    have hN5 : N3 275 = some (e_O (qF m sc pr fe tr)) := (hs3.1.1 275 (by decide)).trans e_B_5
    refine X_ld aL_201 rfl rfl rfl ?_
    refine X_get f_L_7 aL_202 hN5 rfl ?_
    refine X_ld aL_205 rfl rfl rfl ?_
    refine X_iald aL_207 ((hs3.1.1 276 (by decide)).trans e_B_6) (vp_in_nI (by omega) (by omega)) (v := .int (nI (q_xa n xs k))) (by rw [nI_clamp (by omega)]; exact congrArg Value.int (if_pos (by omega))) ?_
    refine X_apI hG hK hD (k := q_xa n xs k) q_xa_e.1 (by simp only [List.length_append, List.length_cons, List.length_nil, e1]; omega) hs3 hb0 aL_208 (Nat.le_of_ble_eq_true rfl) (by omega) (by omega) (fun N4 hs4 => ?_)
    refine X_push (v := .int 32) aL_211 (by decide +kernel) ?_
    refine X_apC hG hK (x := 32) (by decide) (by simp only [List.length_append, List.length_cons, List.length_nil, e1]; omega) hs4 hb0 aL_213 (Nat.le_of_ble_eq_true rfl) (by omega) (by omega) (fun N5 hs5 => ?_)
    clear hN5
    have hN5 : N5 275 = some (e_O (qF m sc pr fe tr)) := (hs5.1.1 275 (by decide)).trans e_B_5
    refine X_ld aL_216 rfl rfl rfl ?_
    refine X_get f_L_13 aL_217 hN5 rfl ?_
    refine X_ld aL_220 rfl rfl rfl ?_
    refine X_iald aL_222 ((hs5.1.1 277 (by decide)).trans e_B_7) (vp_in_nI (by omega) (by omega)) (v := .int (nI (q_xb n xs k))) (by rw [nI_clamp (by omega)]; exact congrArg Value.int (if_pos (by omega))) ?_
    refine X_apI hG hK hD (k := q_xb n xs k) (q_x12 k).2 (by simp only [List.length_append, List.length_cons, List.length_nil, e1]; omega) hs5 hb0 aL_223 (Nat.le_of_ble_eq_true rfl) (by omega) (by omega) (fun N6 hs6 => ?_)
    refine X_push (v := .int 59) aL_226 (by decide +kernel) ?_
    refine X_apC hG hK (x := 59) (by decide) (by simp only [List.length_append, List.length_cons, List.length_nil, e1]; omega) hs6 hb0 aL_228 (Nat.le_of_ble_eq_true rfl) (by omega) (by omega) (fun N7 hs7 => ?_)
    refine X_pop aL_231 rfl ?_
    refine X_iinc aL_232 rfl rfl ?_
    refine X_goto aL_235 ?_
    refine X_loc (L' := [some (.ref 56), some (.ref 275), some (.int (b2 l)), some (.int (nI oo)), some (.ref o), some (.int (nI (k + 1))), none]) ⟨rfl, rfl, rfl, rfl, rfl, congrArg Value.int (m_inc rfl).symm, trivial⟩ ?_
    exact X_room (by omega) (by omega) (law_A2 hG hX hK hM hD hn hm h0 h1 h2 h3 h4 f (k + 1) N7 (by omega) hs7)
theorem law_A1 {G : XE} (hG : x_Kn G) (hX : x_KX G) (hK : x_KS G) (hM : x_KM G) (hD : x_KD G) {ad0 : Nat → Nat} {n : Nat} {xs : Nat → Int32} (hn : n < 2147483648) : x_W G mL_lw (L_Z G ad0 64) (k_at (q_M0 n xs) 275 []) (0) (0) 0 [some (.ref 56), none, none, none, none, none, none] [] := by
  refine X_newK n_L_8 aL_0 (by show 0 + 1 ≤ 604330; omega) (by show 0 + 21 ≤ 7288780; omega) (Z_new (by decide) 275 rfl ?_)
  refine X_dup aL_3 rfl ?_
  refine X_callI l_L_L_init (v_initL hG 20) aL_4 rfl rfl (Nat.le_of_ble_eq_true rfl) (L_fit (Nat.le_of_ble_eq_true rfl) (by omega) (by omega) (by omega)) (fun N9 r h => ?_)
  obtain ⟨rfl, rfl⟩ := h
  refine X_st aL_7 rfl rfl ?_
  refine X_alike q_al1 (fun c' h => by rw [e_B_o (by decide)] at h; cases h) ?_
  refine X_heap (e_N_self e_B_5) ?_
  have h56 : ∀ F : Nat → Int32, e_N (e_B (q_M0 n xs) qF0 q_z q_z) F 56 = some (.inr (false, .int, n, fun j => .int (xs j))) := fun F => (x_set_ne (by decide)).trans ((e_B_o (by decide)).trans rfl)
  obtain ⟨m, hm, em⟩ := e_bnd_lt (e_cell n xs 0) (y := 13) (n := 13) rfl (by decide) (by decide)
  obtain ⟨sc, hsc, esc⟩ := e_bnd_lt (e_cell n xs 1) (y := 4) (n := 4) rfl (by decide) (by decide)
  obtain ⟨pr, hpr, epr⟩ := e_bnd_lt (e_cell n xs 1 >>> ((3 : Int32) &&& 31)) (y := 6) (n := 6) rfl (by decide) (by decide)
  obtain ⟨fe, hfe, efe⟩ := e_bnd_lt (e_cell n xs 1 >>> ((6 : Int32) &&& 31)) (y := 5) (n := 5) rfl (by decide) (by decide)
  obtain ⟨tr, htr, etr⟩ := e_bnd_lt (e_cell n xs 2) (y := 5) (n := 5) rfl (by decide) (by decide)
  obtain ⟨oo, hoo, eoo⟩ := e_bnd_lt (e_cell n xs 3 >>> ((1 : Int32) &&& 31)) (y := 4) (n := 4) rfl (by decide) (by decide)
  refine X_ld aL_8 rfl rfl rfl ?_
  refine X_ld aL_9 rfl rfl rfl ?_
  refine X_push (v := .int 0) aL_10 (by decide +kernel) ?_
  refine X_ls l_L_L_cell (v_cell hG 20 (h56 _) hn (k := 0) (by decide)) aL_11 rfl rfl (Nat.le_of_ble_eq_true rfl) (Nat.le_of_ble_eq_true rfl) (by omega) (by omega) (by omega) ?_
  refine X_push (v := .int 13) aL_14 (by decide +kernel) ?_
  refine X_ls l_L_L_bound (v_bound hG 20 (y := 13) (by decide)) aL_16 rfl rfl (Nat.le_of_ble_eq_true rfl) (Nat.le_of_ble_eq_true rfl) (by omega) (by omega) (by omega) ?_
  refine X_stk (st' := [.int (nI m), .ref 275]) (congrArg (fun z => [Value.int z, .ref 275]) em) ?_
  refine X_eput (k := 0) f_L_44 aL_19 ?_
  refine X_ld aL_22 rfl rfl rfl ?_
  refine X_ld aL_23 rfl rfl rfl ?_
  refine X_push (v := .int 1) aL_24 (by decide +kernel) ?_
  refine X_ls l_L_L_cell (v_cell hG 20 (h56 _) hn (k := 1) (by decide)) aL_25 rfl rfl (Nat.le_of_ble_eq_true rfl) (Nat.le_of_ble_eq_true rfl) (by omega) (by omega) (by omega) ?_
  refine X_push (v := .int 4) aL_28 (by decide +kernel) ?_
  refine X_ls l_L_L_bound (v_bound hG 20 (y := 4) (by decide)) aL_29 rfl rfl (Nat.le_of_ble_eq_true rfl) (Nat.le_of_ble_eq_true rfl) (by omega) (by omega) (by omega) ?_
  refine X_stk (st' := [.int (nI sc), .ref 275]) (congrArg (fun z => [Value.int z, .ref 275]) esc) ?_
  refine X_eput (k := 6) f_L_77 aL_32 ?_
  refine X_ld aL_35 rfl rfl rfl ?_
  refine X_ld aL_36 rfl rfl rfl ?_
  refine X_push (v := .int 1) aL_37 (by decide +kernel) ?_
  refine X_ls l_L_L_cell (v_cell hG 20 (h56 _) hn (k := 1) (by decide)) aL_38 rfl rfl (Nat.le_of_ble_eq_true rfl) (Nat.le_of_ble_eq_true rfl) (by omega) (by omega) (by omega) ?_
  refine X_push (v := .int 3) aL_41 (by decide +kernel) ?_
  refine X_bin aL_42 rfl ?_
  refine X_push (v := .int 6) aL_43 (by decide +kernel) ?_
  refine X_ls l_L_L_bound (v_bound hG 20 (y := 6) (by decide)) aL_45 rfl rfl (Nat.le_of_ble_eq_true rfl) (Nat.le_of_ble_eq_true rfl) (by omega) (by omega) (by omega) ?_
  refine X_stk (st' := [.int (nI pr), .ref 275]) (congrArg (fun z => [Value.int z, .ref 275]) epr) ?_
  refine X_eput (k := 7) f_L_68 aL_48 ?_
  refine X_ld aL_51 rfl rfl rfl ?_
  refine X_ld aL_52 rfl rfl rfl ?_
  refine X_push (v := .int 1) aL_53 (by decide +kernel) ?_
  refine X_ls l_L_L_cell (v_cell hG 20 (h56 _) hn (k := 1) (by decide)) aL_54 rfl rfl (Nat.le_of_ble_eq_true rfl) (Nat.le_of_ble_eq_true rfl) (by omega) (by omega) (by omega) ?_
  refine X_push (v := .int 6) aL_57 (by decide +kernel) ?_
  refine X_bin aL_59 rfl ?_
  refine X_push (v := .int 5) aL_60 (by decide +kernel) ?_
  refine X_ls l_L_L_bound (v_bound hG 20 (y := 5) (by decide)) aL_61 rfl rfl (Nat.le_of_ble_eq_true rfl) (Nat.le_of_ble_eq_true rfl) (by omega) (by omega) (by omega) ?_
  refine X_stk (st' := [.int (nI fe), .ref 275]) (congrArg (fun z => [Value.int z, .ref 275]) efe) ?_
  refine X_eput (k := 8) f_L_71 aL_64 ?_
  refine X_ld aL_67 rfl rfl rfl ?_
  refine X_ld aL_68 rfl rfl rfl ?_
  refine X_push (v := .int 2) aL_69 (by decide +kernel) ?_
  refine X_ls l_L_L_cell (v_cell hG 20 (h56 _) hn (k := 2) (by decide)) aL_70 rfl rfl (Nat.le_of_ble_eq_true rfl) (Nat.le_of_ble_eq_true rfl) (by omega) (by omega) (by omega) ?_
  refine X_push (v := .int 5) aL_73 (by decide +kernel) ?_
  refine X_ls l_L_L_bound (v_bound hG 20 (y := 5) (by decide)) aL_74 rfl rfl (Nat.le_of_ble_eq_true rfl) (Nat.le_of_ble_eq_true rfl) (by omega) (by omega) (by omega) ?_
  refine X_stk (st' := [.int (nI tr), .ref 275]) (congrArg (fun z => [Value.int z, .ref 275]) etr) ?_
  refine X_eput (k := 9) f_L_98 aL_77 ?_
  refine X_ld aL_80 rfl rfl rfl ?_
  refine X_push (v := .int 3) aL_81 (by decide +kernel) ?_
  refine X_ls l_L_L_cell (v_cell hG 20 (h56 _) hn (k := 3) (by decide)) aL_82 rfl rfl (Nat.le_of_ble_eq_true rfl) (Nat.le_of_ble_eq_true rfl) (by omega) (by omega) (by omega) ?_
  refine X_push (v := .int 1) aL_85 (by decide +kernel) ?_
  refine X_bin aL_86 rfl ?_
  have tail : ∀ l : Bool, x_W G mL_lw (L_Z G ad0 64) (e_N (e_B (q_M0 n xs) qF0 q_z q_z) (qF m sc pr fe tr)) (0 + 1 + 2) (0 + 21 + 80) 95 [some (.ref 56), some (.ref 275), none, none, none, none, none] [.int (b2 l)] := fun l => by
    refine X_st aL_95 rfl rfl ?_
    refine X_ld aL_96 rfl rfl rfl ?_
    refine X_push (v := .int 3) aL_97 (by decide +kernel) ?_
    refine X_ls l_L_L_cell (v_cell hG 20 (h56 _) hn (k := 3) (by decide)) aL_98 rfl rfl (Nat.le_of_ble_eq_true rfl) (Nat.le_of_ble_eq_true rfl) (by omega) (by omega) (by omega) ?_
    refine X_push (v := .int 1) aL_101 (by decide +kernel) ?_
    refine X_bin aL_102 rfl ?_
    refine X_push (v := .int 4) aL_103 (by decide +kernel) ?_
    refine X_ls l_L_L_bound (v_bound hG 20 (y := 4) (by decide)) aL_104 rfl rfl (Nat.le_of_ble_eq_true rfl) (Nat.le_of_ble_eq_true rfl) (by omega) (by omega) (by omega) ?_
    refine X_stk (st' := [.int (nI oo)]) (congrArg (fun z => [Value.int z]) eoo) ?_
    refine X_st aL_107 rfl rfl ?_
    refine X_heap (N' := (e_B (q_M0 n xs) (qF m sc pr fe tr) (qA (q_xa n xs) 0) (qA (q_xb n xs) 0))) e_B_set ?_
    refine X_newK n_L_187 aL_108 (by show _ ≤ 604330; omega) (by show _ ≤ 7288780; omega) (x_K_top ((e_B_o (by decide)).trans rfl) (fun q hq h64 hab => ?_))
    have hq8 : 278 ≤ q := hab 277 _ e_B_7
    refine X_dup aL_111 rfl ?_
    refine X_ldcS (i := 0) hK (List.mem_of_getElem? (i := 0) rfl) (by decide) aL_112 ?_
    refine X_callI l_L_J4_init_a7421 (j_sbI hG hK 20 (b := 278) (N0 := (e_B (q_M0 n xs) (qF m sc pr fe tr) (qA (q_xa n xs) 0) (qA (q_xb n xs) 0))) (o := q) (by decide) hq8 ((e_B_o (by decide)).trans rfl) (fun k hk => x_set_ne (by omega)) x_set_eq (i := 0) (by decide)) aL_114 rfl rfl (Nat.le_of_ble_eq_true rfl) (L_fit (Nat.le_of_ble_eq_true rfl) (by omega) (by omega) (by omega)) (fun N9 r h => ?_)
    obtain ⟨rfl, hsb⟩ := h
    refine X_st aL_117 rfl rfl ?_
    refine X_push (v := .int 0) aL_119 (by decide +kernel) ?_
    refine X_st aL_120 rfl rfl ?_
    refine X_loc (L' := [some (.ref 56), some (.ref 275), some (.int (b2 l)), some (.int (nI oo)), some (.ref q), some (.int (nI 0)), none]) ⟨rfl, rfl, rfl, rfl, rfl, rfl, trivial⟩ ?_
    exact X_room (by omega) (by omega) (law_A2 hG hX hK hM hD hn (by omega) hoo (by omega) (by omega) (by omega) (by omega) m 0 N9 (Nat.zero_add m) hsb)
  refine X_if_ne aL_87 (fun _ => ?_) (fun _ => ?_)
  · refine X_push (v := .int 0) aL_94 (by decide +kernel) ?_
    exact tail false
  · refine X_push (v := .int 1) aL_90 (by decide +kernel) ?_
    refine X_goto aL_91 ?_
    exact tail true
