/-! ===== a StringBuilder over texts (wip/p26/gen_f1.py) ===== -/
theorem x_set_sw {N : XH} {a b : Nat} {c c' : XC} (h : a ≠ b) : x_set (x_set N a c) b c' = x_set (x_set N b c') a c := by
  funext k
  unfold x_set
  by_cases h1 : k = b
  · rw [if_pos h1, if_neg (by omega), if_pos h1]
  · rw [if_neg h1]
    by_cases h2 : k = a
    · rw [if_pos h2, if_pos h2]
    · rw [if_neg h2, if_neg h2, if_neg h1]
section SBF
variable {G : XE} {M Mc : XMI} {Z : XZ} {N N1 : XH} {cells slots pc pc' t : Nat} {L : List (Option Value)}
theorem X_callFv {idx n d mc ms o : Nat} {st As rest : List Value} (ho : o < 64) (hO : va_O (x_y Mc).cls (x_ad G o) (x_A G) (x_S G) (x_S G).heap) (hk : x_LV (x_own M) idx n Mc) (hM : x_M G Mc d mc ms (.ref o :: As) N (x_RetV N1) x_noX)
    (hd : x_at (x_k M) pc = some (.invokevirtual idx, pc', t)) (hst : st = As.reverse ++ .ref o :: rest) (hn : As.length = n) (hrest : (rest.map fun v => v.category).sum ≤ 8) (hfit : x_fit Z cells slots Mc d mc ms)
    (kk : x_W G M Z N1 (cells + mc) (slots + ms) pc' L rest) : x_W G M Z N cells slots pc L st := by
  intro p e s m args below meth c ad nb H locs ls B hR hnb he hS hl hvs
  obtain ⟨hx, hb, hml, hr, hlk, hown, hts, hW, hkp, htb, hnm, hKn, hok⟩ := id B
  obtain ⟨d1, e1⟩ := x_decn hok hd (n := 2) rfl
  subst e1
  obtain ⟨hw, hh, hk1, hk2, hk3⟩ := hk
  obtain ⟨hw1, hw2, hw3, hw4⟩ := id hw
  rw [hh] at hw1
  have hvA : ∀ v ∈ Value.ref o :: As, x_vok nb v := fun v hv => hvs v (by
    rw [hst]
    rcases List.mem_cons.mp hv with h | h
    · exact List.mem_append_right _ (by rw [h]; exact List.mem_cons_self)
    · exact List.mem_append_left _ (List.mem_reverse.mpr h))
  have hvR : ∀ v ∈ rest, x_vok nb v := fun v hv => hvs v (by rw [hst]; exact List.mem_append_right _ (List.mem_cons_of_mem _ hv))
  have ea : x_ad G o = ad o := (hR.2.2.1 _ ho).symm
  rw [ea] at hO
  obtain ⟨cell, q1, q2, q3, q4⟩ := ((va_O.moved hW.alike hO).kept (x_fzq hkp)).kept hS.2.1
  have hrun := vx_runV (rest := rest.map (x_tr ad)) (As := As.map (x_tr ad)) (b := ad o) (C := (x_y Mc).cls) (nL := x_nL M) (g := F0 m pc ls (st.map (x_tr ad))) (cells := cells) (slots := slots) (e := e) (below := below) (meth := meth) (locs := locs) ⟨hx, hb, hml, hown, hts⟩ (hM ad nb)
    ⟨⟨rfl, rfl, hfit.1, hfit.2.1, x_pay hts hw, by unfold x_ws; rw [hh]; exact List.mem_cons_self, hts _ hw1, hts _ hw2, hw3, x_len_of hw4, hts _ hk1⟩, hts _ hk2, hts _ hk3⟩
    ⟨x_blind, ⟨cell, q1, q2, q3⟩, fun U hU hWU => ⟨rfl, hvA, hW.trans hWU, by rw [hU]; exact ⟨x_n0_le hkp hS, fun q hq => (hS.2.1 q (Nat.lt_of_lt_of_le hq hkp.1) (Nat.not_le.mpr hq)).trans (hkp.2 q hq)⟩, by rw [hU]; exact hR⟩⟩
    rfl (by rw [List.length_map]; exact hn) hl.1.1 (x_map_split hst) (lv_room (by rw [x_cat_sum]; exact hrest)) d1 ⟨hfit.2.2.1, hfit.2.2.2⟩
  exact x_back (Qn := x_RetV N1) (Qx := x_noX) hrun B hnb he hS hl hvR (fun _ _ h => h.elim) (fun N' r h => by obtain ⟨rfl, rfl⟩ := h; exact kk)
end SBF
/-- a StringBuilder's fields: its bytes at v, n of them are the text -/
def sbV (v n : Nat) : Nat → Value := fun k => match k with
  | 0 => .ref v
  | 1 => .int 0
  | 2 => .int 0
  | 3 => .int (nI n)
  | _ => .int 0
abbrev sbA (m : Nat) (f : Nat → Int32) : XC := .inr (true, .byte, m, fun j => .int (f j))
/-- at o stands a StringBuilder with the text l and room for q letters; the cells below b are those of N0 -/
def sb (b : Nat) (N0 : XH) (o q : Nat) (l : List Int32) (N : XH) : Prop := ((∀ k, k < b → N k = N0 k) ∧ b ≤ o) ∧ ∃ (v m : Nat) (f : Nat → Int32), (b ≤ v ∧ v ≠ o) ∧ N o = some (.inl (12, sbV v l.length)) ∧ N v = some (sbA m f) ∧ (l.length ≤ m ∧ q ≤ m ∧ m ≤ 602) ∧ (∀ j, j < l.length → f j = l.getD j 0) ∧ ∀ j, j < m → fits .byte (.int (f j)) = true
def sbQ (b : Nat) (N0 : XH) (o q : Nat) (l : List Int32) : XH → Option Value → Prop := fun N r => r = some (.ref o) ∧ sb b N0 o q l N
def sbQv (b : Nat) (N0 : XH) (o q : Nat) (l : List Int32) : XH → Option Value → Prop := fun N r => r = none ∧ sb b N0 o q l N
theorem sbV_v {v n w : Nat} : updV (sbV v n) 0 (.ref w) = sbV w n := by
  funext k
  match k with
  | 0 => rfl
  | 1 => rfl
  | 2 => rfl
  | 3 => rfl
  | k + 4 => rfl
theorem sbV_n {v n m : Nat} : updV (sbV v n) 3 (.int (nI m)) = sbV v m := by
  funext k
  match k with
  | 0 => rfl
  | 1 => rfl
  | 2 => rfl
  | 3 => rfl
  | k + 4 => rfl
theorem l_getD_l {l w : List Int32} {j : Nat} (h : j < l.length) : (l ++ w).getD j 0 = l.getD j 0 := by
  rw [List.getD_eq_getElem?_getD, List.getD_eq_getElem?_getD, List.getElem?_append_left h]
theorem l_getD_r {l w : List Int32} {j : Nat} (h : l.length ≤ j) : (l ++ w).getD j 0 = w.getD (j - l.length) 0 := by
  rw [List.getD_eq_getElem?_getD, List.getD_eq_getElem?_getD, List.getElem?_append_right h]
theorem sb_ct {l w : List Int32} {f : Nat → Int32} (hf : ∀ j, j < l.length → f j = l.getD j 0) : ∀ j, j < (l ++ w).length → va_cpy (fun j => w.getD j 0) f 0 l.length w.length j = (l ++ w).getD j 0 := by
  intro j hj
  rw [List.length_append] at hj
  unfold va_cpy
  by_cases h : j < l.length
  · rw [if_neg (by omega), l_getD_l h]
    exact hf j h
  · rw [if_pos ⟨by omega, by omega⟩, l_getD_r (by omega), Nat.zero_add]
theorem fits_b {x : Int32} (h0 : 0 ≤ x) (h1 : x ≤ 127) : fits .byte (.int x) = true := by
  have a := Int32.le_iff_toInt_le.mp h0
  have b := Int32.le_iff_toInt_le.mp h1
  rw [Int32.toInt_zero] at a
  rw [show (127 : Int32).toInt = 127 by decide] at b
  show (decide ((-128 : Int32) ≤ x) && decide (x ≤ 127)) = true
  rw [Bool.and_eq_true]
  refine ⟨decide_eq_true ?_, decide_eq_true h1⟩
  rw [Int32.le_iff_toInt_le, show (-128 : Int32).toInt = -128 by decide]
  omega
theorem j_isLatin1 {G : XE} (hG : x_Kn G) (hK : x_KS G) {N : XH} (d : Nat) {o v n : Nat} (hN : N o = some (.inl (12, sbV v n))) : x_M G mJ5_isLatin1_aae02 (d) 0 0 [.ref o] (N) (x_Ret N (.int 1)) x_noX := by
  refine X_M hG okJ5_isLatin1_aae02 rfl (L := [some (.ref o)]) rfl (Nat.le_of_ble_eq_true rfl) (fun ad0 nb0 => ?_)
  refine X_gets (v := .int 1) fs_J5_18 hK.1.1 trivial rfl ?_
  refine X_if_eq rfl (fun c => absurd c (by decide)) (fun _ => ?_)
  refine X_ld rfl rfl rfl rfl ?_
  refine X_get f_J5_22 rfl hN rfl ?_
  refine X_if_ne rfl (fun c => absurd rfl c) (fun _ => ?_)
  refine X_push (v := .int 1) rfl (by decide +kernel) ?_
  refine X_goto rfl ?_
  exact X_zret rfl rfl (by decide) ⟨rfl, rfl⟩ (Nat.le_of_ble_eq_true rfl) (Nat.le_of_ble_eq_true rfl)
theorem y_mxN {a b : Nat} (ha : a < 2147483648) (hb : b < 2147483648) : x_max (nI a) (nI b) = nI (max a b) := by
  unfold x_max
  by_cases h : nI a < nI b
  · have h2 := (n_lt rfl rfl ha hb).mp h
    rw [if_pos h, Nat.max_eq_right (by omega)]
  · have h2 := mt (n_lt rfl rfl ha hb).mpr h
    rw [if_neg h, Nat.max_eq_left (by omega)]
theorem j_newLen {G : XE} (hG : x_Kn G) {N : XH} (d : Nat) {a g p : Nat} (ha : 0 < a + max g p ∧ a + max g p ≤ 4000) : x_M G mJ8_newLength_cabcc (d + 1) 0 0 [.int (nI a), .int (nI g), .int (nI p)] (N) (x_Ret N (.int (nI (a + max g p)))) x_noX := by
  refine X_M hG okJ8_newLength_cabcc rfl (L := [some (.int (nI a)), some (.int (nI g)), some (.int (nI p)), none]) rfl (Nat.le_of_ble_eq_true rfl) (fun ad0 nb0 => ?_)
  have hg : g ≤ max g p := Nat.le_max_left g p
  have hp : p ≤ max g p := Nat.le_max_right g p
  refine X_ld rfl rfl rfl rfl ?_
  refine X_ld rfl rfl rfl rfl ?_
  refine X_ld rfl rfl rfl rfl ?_
  refine X_max lmax_J8 rfl (by omega) (Nat.le_of_ble_eq_true rfl) (Nat.le_of_ble_eq_true rfl) (Nat.le_of_ble_eq_true rfl) ?_
  refine X_bin rfl rfl ?_
  refine X_stk (st' := [.int (nI (a + max g p))]) (congrArg (fun q => [Value.int q]) (by rw [y_mxN (by omega) (by omega)]; exact nI_add _ _)) ?_
  refine X_st rfl rfl rfl ?_
  refine X_push (v := .int 0) rfl (by decide +kernel) ?_
  refine X_ld rfl rfl rfl rfl ?_
  refine X_icmp_ge rfl (fun c10 => absurd ((n_le (b := 0) rfl (show (0 : Int32) = nI 0 from rfl) (by omega) (by omega)).mp c10) (by omega)) (fun c10 => ?_)
  refine X_ld rfl rfl rfl rfl ?_
  refine X_ldc k_J8_200 rfl ?_
  refine X_icmp_gt rfl (fun c16 => absurd ((n_lt (show (2147483639 : Int32) = nI 2147483639 from rfl) rfl (by decide) (by omega)).mp c16) (by omega)) (fun c16 => ?_)
  refine X_ld rfl rfl rfl rfl ?_
  exact X_iret rfl rfl ⟨rfl, rfl⟩ (Nat.le_of_ble_eq_true rfl) (Nat.le_of_ble_eq_true rfl)
theorem j_newCap {G : XE} (hG : x_Kn G) (hK : x_KS G) {N : XH} (d : Nat) {o v n m q : Nat} {f : Nat → Int32} (hN : N o = some (.inl (12, sbV v n))) (hV : N v = some (sbA m f)) (hq : m < q ∧ q ≤ 300) : x_M G mJ5_newCapacity_0f7a4 (d + 2) 0 0 [.ref o, .int (nI q)] (N) (x_Ret N (.int (nI (m + max (q - m) (m + 2))))) x_noX := by
  refine X_M hG okJ5_newCapacity_0f7a4 rfl (L := [some (.ref o), some (.int (nI q)), none, none, none, none]) rfl (Nat.le_of_ble_eq_true rfl) (fun ad0 nb0 => ?_)
  have hx : max (q - m) (m + 2) ≤ 602 - m ∧ m + 2 ≤ max (q - m) (m + 2) := ⟨Nat.max_le.mpr ⟨by omega, by omega⟩, Nat.le_max_right _ _⟩
  refine X_ld rfl rfl rfl rfl ?_
  refine X_get f_J5_15 rfl hN rfl ?_
  refine X_alen rfl hV ?_
  refine X_st rfl rfl rfl ?_
  refine X_ld rfl rfl rfl rfl ?_
  refine X_ld rfl rfl rfl rfl ?_
  refine X_get f_J5_22 rfl hN rfl ?_
  refine X_bin rfl rfl ?_
  refine X_stk (st' := [.int (nI q)]) (congrArg (fun z => [Value.int z]) (sb_shl0 _)) ?_
  refine X_st rfl rfl rfl ?_
  refine X_ld rfl rfl rfl rfl ?_
  refine X_ld rfl rfl rfl rfl ?_
  refine X_bin rfl rfl ?_
  refine X_stk (st' := [.int (nI (q - m))]) (congrArg (fun z => [Value.int z]) (pk_sub (by omega))) ?_
  refine X_st rfl rfl rfl ?_
  refine X_ld rfl rfl rfl rfl ?_
  refine X_ld rfl rfl rfl rfl ?_
  refine X_ld rfl rfl rfl rfl ?_
  refine X_push (v := .int 2) rfl (by decide +kernel) ?_
  refine X_ld rfl rfl rfl rfl ?_
  refine X_get f_J5_22 rfl hN rfl ?_
  refine X_bin rfl rfl ?_
  refine X_bin rfl rfl ?_
  refine X_stk (st' := [.int (nI (m + 2)), .int (nI (q - m)), .int (nI m)]) (congrArg (fun z => [Value.int z, .int (nI (q - m)), .int (nI m)]) (by rw [sb_shl0]; exact nI_add m 2)) ?_
  refine X_scall l_J5_J8_newLength_cabcc (j_newLen hG d (a := m) (g := q - m) (p := m + 2) ⟨by omega, by omega⟩) rfl rfl rfl (Nat.le_of_ble_eq_true rfl) (Nat.le_of_ble_eq_true rfl) (Nat.le_refl _) (Nat.le_of_ble_eq_true rfl) (Nat.le_of_ble_eq_true rfl) ?_
  refine X_st rfl rfl rfl ?_
  refine X_ld rfl rfl rfl rfl ?_
  refine X_ldc k_J5_39 rfl ?_
  refine X_icmp_ne rfl (fun _ => ?_) (fun c => absurd ((n_eq (b := 2147483647) rfl (show (2147483647 : Int32) = nI 2147483647 from rfl) (by omega) (by decide)).mp c) (by omega))
  refine X_ld rfl rfl rfl rfl ?_
  refine X_ld rfl rfl rfl rfl ?_
  refine X_get f_J5_22 rfl hN rfl ?_
  refine X_bin rfl rfl ?_
  refine X_stk (st' := [.int (nI (m + max (q - m) (m + 2)))]) (congrArg (fun z => [Value.int z]) (sb_shr0 _)) ?_
  exact X_iret rfl rfl ⟨rfl, rfl⟩ (Nat.le_of_ble_eq_true rfl) (Nat.le_of_ble_eq_true rfl)
def x_QCb (N : XH) (c2 m : Nat) (f : Nat → Int32) : XH → Option Value → Prop := fun N' r => ∃ (q : Nat) (g : Nat → Int32), ((∀ j b, N j = some b → j < q) ∧ 64 ≤ q ∧ N q = none) ∧ N' = x_set N q (sbA c2 g) ∧ r = some (.ref q) ∧ (∀ j, j < m → g j = f j) ∧ ∀ j, j < c2 → fits .byte (.int (g j)) = true
theorem va_cpy_fit {f g : Nat → Int32} {m n : Nat} (hf : ∀ j, j < n → fits .byte (.int (f j)) = true) (hg : ∀ j, j < m → fits .byte (.int (g j)) = true) {p : Nat} : ∀ j, j < m → fits .byte (.int (va_cpy f g 0 p n j)) = true := fun j hj => by
  unfold va_cpy
  by_cases h : p ≤ j ∧ j < p + n
  · rw [if_pos h, Nat.zero_add]
    exact hf _ (by omega)
  · rw [if_neg h]
    exact hg j hj
theorem j_copyB {G : XE} (hG : x_Kn G) {N : XH} (d : Nat) (h0 : N 0 = none) {v m c2 : Nat} {f : Nat → Int32} (hV : N v = some (sbA m f)) (hf : ∀ j, j < m → fits .byte (.int (f j)) = true) (hm : m < c2 ∧ c2 ≤ 4000) : x_M G mJ7_copyOf_9075b (d + 1) 1 c2 [.ref v, .int (nI c2)] (N) (x_QCb N c2 m f) x_noX := by
  refine X_M hG okJ7_copyOf_9075b rfl (L := [some (.ref v), some (.int (nI c2)), none]) rfl (Nat.le_of_ble_eq_true rfl) (fun ad0 nb0 => ?_)
  refine X_ld rfl rfl rfl rfl ?_
  refine X_ld rfl rfl rfl rfl ?_
  refine X_alen rfl hV ?_
  refine X_icmp_ne rfl (fun _ => ?_) (fun c => absurd ((n_eq rfl (show Int32.ofNat m = nI m from rfl) (by omega) (by omega)).mp c) (by omega))
  refine X_ld rfl rfl rfl rfl ?_
  refine X_newaK c2 rfl rfl (List.mem_of_getElem? (i := 2) rfl) ba_T (Int32.not_lt.mpr (nI_ge0 (by omega))) (nI_clamp (by omega)) (by omega) (by show 0 + 1 ≤ 1; omega) (by show 0 + c2 ≤ c2; omega) (x_K_top h0 (fun q hq h64 htop => ?_))
  refine X_st rfl rfl rfl ?_
  have hVq : x_set N q (.inr (true, .byte, c2, fun _ => defaultValue .byte)) v = some (sbA m f) := (x_set_ne (fun e => by rw [e, hq] at hV; cases hV)).trans hV
  refine X_ld rfl rfl rfl rfl ?_
  refine X_push (v := .int 0) rfl (by decide +kernel) ?_
  refine X_ld rfl rfl rfl rfl ?_
  refine X_push (v := .int 0) rfl (by decide +kernel) ?_
  refine X_ld rfl rfl rfl rfl ?_
  refine X_alen rfl hVq ?_
  refine X_ld rfl rfl rfl rfl ?_
  refine X_min lmin_J7 rfl (by omega) (Nat.le_of_ble_eq_true rfl) (by omega) (by omega) ?_
  refine X_stk (st' := [.int (nI m), .int 0, .ref q, .int 0, .ref v]) (congrArg (fun z => [Value.int z, .int 0, .ref q, .int 0, .ref v]) (y_min_le (by omega) (by omega))) ?_
  have hz : (0 : Int32).toNatClampNeg = 0 := by decide
  refine X_copyi (f := f) (g := fun _ => 0) (ty := .byte) lcpy_J7 rfl hVq x_set_eq rfl hf (by decide) (by decide) (Int32.not_lt.mpr (nI_ge0 (by omega))) (by rw [hz, nI_clamp (by omega)]; omega) (by rw [hz, nI_clamp (by omega)]; omega) (by omega) (Nat.le_of_ble_eq_true rfl) ?_
  rw [x_set_set, hz, nI_clamp (by omega)]
  refine X_ld rfl rfl rfl rfl ?_
  exact X_aret rfl rfl (Or.inr ⟨_, rfl⟩) (Or.inr ⟨_, rfl⟩) ⟨q, _, ⟨htop, h64, hq⟩, rfl, rfl, fun j hj => by unfold va_cpy; rw [if_pos ⟨Nat.zero_le _, by omega⟩, Nat.sub_zero, Nat.zero_add], va_cpy_fit hf (fun j _ => by decide)⟩ (by omega) (by omega)
theorem sb_0 {b o q : Nat} {N0 N : XH} {l : List Int32} (hb : 0 < b) (h0 : N0 0 = none) (hsb : sb b N0 o q l N) : N 0 = none := (hsb.1.1 0 hb).trans h0
theorem j_ensure {G : XE} (hG : x_Kn G) (hK : x_KS G) {N : XH} (d : Nat) {b o q : Nat} {N0 : XH} {l : List Int32} (hb : 0 < b) (h0 : N0 0 = none) (hsb : sb b N0 o q l N) {q2 : Nat} (hq2 : q2 ≤ 300) : x_M G mJ5_ensureCapacityInternal_d00df (d + 3) 1 602 [.ref o, .int (nI q2)] (N) (sbQv b N0 o q2 l) x_noX := by
  refine X_M hG okJ5_ensureCapacityInternal_d00df rfl (L := [some (.ref o), some (.int (nI q2)), none]) rfl (Nat.le_of_ble_eq_true rfl) (fun ad0 nb0 => ?_)
  obtain ⟨⟨k1, k2⟩, v, m, f, ⟨v1, v2⟩, hN, hV, ⟨m1, m2, m3⟩, hf, hfit⟩ := id hsb
  have hn0 := sb_0 hb h0 hsb
  refine X_ld rfl rfl rfl rfl ?_
  refine X_get f_J5_15 rfl hN rfl ?_
  refine X_alen rfl hV ?_
  refine X_ld rfl rfl rfl rfl ?_
  refine X_get f_J5_22 rfl hN rfl ?_
  refine X_bin rfl rfl ?_
  refine X_stk (st' := [.int (nI m)]) (congrArg (fun z => [Value.int z]) (sb_shr0 _)) ?_
  refine X_st rfl rfl rfl ?_
  refine X_ld rfl rfl rfl rfl ?_
  refine X_ld rfl rfl rfl rfl ?_
  refine X_bin rfl rfl ?_
  have hd : (nI q2 - nI m).toInt = (q2 : Int) - m := pk_sub_toInt (by omega) (by omega)
  refine X_if_le rfl (fun c => ?_) (fun c => ?_)
  · exact X_vret rfl rfl ⟨rfl, ⟨k1, k2⟩, v, m, f, ⟨v1, v2⟩, hN, hV, ⟨m1, by rw [Int32.le_iff_toInt_le, hd, Int32.toInt_zero] at c; omega, m3⟩, hf, hfit⟩ (Nat.le_of_ble_eq_true rfl) (Nat.le_of_ble_eq_true rfl)
  · have hlt : m < q2 := by
      have c2 : ¬ (nI q2 - nI m ≤ 0) := c
      rw [Int32.le_iff_toInt_le, hd, Int32.toInt_zero] at c2
      omega
    have hx : max (q2 - m) (m + 2) ≤ 602 - m ∧ m + 2 ≤ max (q2 - m) (m + 2) ∧ q2 - m ≤ max (q2 - m) (m + 2) := ⟨Nat.max_le.mpr ⟨by omega, by omega⟩, Nat.le_max_right _ _, Nat.le_max_left _ _⟩
    refine X_ld rfl rfl rfl rfl ?_
    refine X_ld rfl rfl rfl rfl ?_
    refine X_get f_J5_15 rfl hN rfl ?_
    refine X_ld rfl rfl rfl rfl ?_
    refine X_ld rfl rfl rfl rfl ?_
    refine X_gv lg_J5_104 (j_newCap hG hK d hN hV ⟨hlt, hq2⟩) hN rfl rfl rfl rfl (Nat.le_of_ble_eq_true rfl) (Nat.le_of_ble_eq_true rfl) (Nat.le_refl _) (Nat.le_of_ble_eq_true rfl) (Nat.le_of_ble_eq_true rfl) ?_
    refine X_ld rfl rfl rfl rfl ?_
    refine X_get f_J5_22 rfl hN rfl ?_
    refine X_bin rfl rfl ?_
    refine X_stk (st' := [.int (nI (m + max (q2 - m) (m + 2))), .ref v, .ref o]) (congrArg (fun z => [Value.int z, .ref v, .ref o]) (sb_shl0 _)) ?_
    refine X_scallP l_J5_J7_copyOf_9075b (j_copyB hG d hn0 hV hfit (c2 := m + max (q2 - m) (m + 2)) ⟨by omega, by omega⟩) rfl rfl rfl (Nat.le_of_ble_eq_true rfl) (Nat.le_of_ble_eq_true rfl) (by omega) (Nat.le_of_ble_eq_true rfl) (by omega) (fun N1 r hq => ?_)
    obtain ⟨w, g, ⟨w1, w2, w3⟩, rfl, rfl, w4, w5⟩ := hq
    have hwo := w1 _ _ hN
    refine X_stk (st' := [.ref w, .ref o]) (rfl) ?_
    refine X_put f_J5_15 rfl ((x_set_ne (by omega)).trans hN) ⟨rfl, rfl⟩ ?_
    rw [sbV_v]
    exact X_vret rfl rfl ⟨rfl, ⟨fun k hk => (x_set_ne (by omega)).trans ((x_set_ne (by omega)).trans (k1 k hk)), k2⟩, w, _, g, ⟨by omega, by omega⟩, x_set_eq, (x_set_ne (by omega)).trans x_set_eq, ⟨by omega, by omega, by omega⟩, fun j hj => (w4 j (by omega)).trans (hf j hj), w5⟩ (Nat.le_of_ble_eq_true rfl) (by omega)
theorem j_inflF {G : XE} (hG : x_Kn G) (hK : x_KS G) {N : XH} (d : Nat) {o v n i : Nat} (hN : N o = some (.inl (12, sbV v n))) (hi : i < 26) : x_M G mJ5_inflateIfNeededFor_a7421 (d + 1) 0 0 [.ref o, .ref (4 + i)] (N) (x_RetV N) x_noX := by
  refine X_M hG okJ5_inflateIfNeededFor_a7421 rfl (L := [some (.ref o), some (.ref (4 + i))]) rfl (Nat.le_of_ble_eq_true rfl) (fun ad0 nb0 => ?_)
  refine X_gets (v := .int 1) fs_J5_18 hK.1.1 trivial rfl ?_
  refine X_if_eq rfl (fun c => absurd c (by decide)) (fun _ => ?_)
  refine X_ld rfl rfl rfl rfl ?_
  refine X_get f_J5_22 rfl hN rfl ?_
  refine X_ld rfl rfl rfl rfl ?_
  refine X_callF (o := 4 + i) (by omega) (hK.2.1 i hi).1 l_J5_J0_coder_7d493 (c_coder hG hK d i hi) rfl rfl rfl (Nat.le_of_ble_eq_true rfl) (x_fit_of (Nat.le_of_ble_eq_true rfl) (Nat.le_refl _) (by omega) (by omega)) ?_
  refine X_icmp_eq rfl (fun _ => ?_) (fun c => absurd rfl c)
  exact X_vret rfl rfl ⟨rfl, rfl⟩ (Nat.le_of_ble_eq_true rfl) (Nat.le_of_ble_eq_true rfl)
theorem j_getBytes {G : XE} (hG : x_Kn G) (hK : x_KS G) {N : XH} (d : Nat) {v m p i : Nat} {f : Nat → Int32} (hi : i < 26) (hV : N v = some (sbA m f)) (hm : m ≤ 4000) (hp : p + (x_st i).length ≤ m) : x_M G mJ0_getBytes_840e7 (d + 1) 0 0 [.ref (4 + i), .ref v, .int (nI p), .int 0] (N) (x_RetV (x_set N v (sbA m (va_cpy (fun j => (x_st i).getD j 0) f 0 p (x_st i).length)))) x_noX := by
  refine X_M hG okJ0_getBytes_840e7 rfl (L := [some (.ref (4 + i)), some (.ref v), some (.int (nI p)), some (.int 0)]) rfl (Nat.le_of_ble_eq_true rfl) (fun ad0 nb0 => ?_)
  have hS := hK.2.1 i hi
  have hz : (0 : Int32).toNatClampNeg = 0 := by decide
  refine X_ld rfl rfl rfl rfl ?_
  refine X_callF (o := 4 + i) (by omega) (hK.2.1 i hi).1 l_J0_J0_coder_7d493 (c_coder hG hK d i hi) rfl rfl rfl (Nat.le_of_ble_eq_true rfl) (x_fit_of (Nat.le_of_ble_eq_true rfl) (Nat.le_refl _) (by omega) (by omega)) ?_
  refine X_ld rfl rfl rfl rfl ?_
  refine X_icmp_ne rfl (fun c => absurd rfl c) (fun _ => ?_)
  refine X_ld rfl rfl rfl rfl ?_
  refine X_getS (v := .ref (30 + i)) (by omega) fs_J0_9 hS.2.2.1 (show 30 + i < 64 by omega) rfl ?_
  refine X_push (v := .int 0) rfl (by decide +kernel) ?_
  refine X_ld rfl rfl rfl rfl ?_
  refine X_ld rfl rfl rfl rfl ?_
  refine X_ld rfl rfl rfl rfl ?_
  refine X_bin rfl rfl ?_
  refine X_ld rfl rfl rfl rfl ?_
  refine X_getS (v := .ref (30 + i)) (by omega) fs_J0_9 hS.2.2.1 (show 30 + i < 64 by omega) rfl ?_
  refine X_alenS (by omega) hS.2.2.2 rfl ?_
  refine X_stk (st' := [.int (nI (x_st i).length), .int (nI p), .ref v, .int 0, .ref (30 + i)]) (congrArg (fun z => [Value.int (nI (x_st i).length), .int z, .ref v, .int 0, .ref (30 + i)]) (sb_shl0 _)) ?_
  refine X_copyz (f := fun j => (x_st i).getD j 0) (g := f) lcpy_J0 rfl (by omega) hS.2.2.2 hV rfl (fun j hj => fits_b (x_st_mem i j hj).2.2.1 (x_st_mem i j hj).2.2.2) (by decide) (Int32.not_lt.mpr (nI_ge0 (by omega))) (Int32.not_lt.mpr (nI_ge0 (by omega))) (by rw [hz, nI_clamp (by omega)]; omega) (by rw [nI_clamp (by omega), nI_clamp (by omega)]; omega) (by omega) (Nat.le_of_ble_eq_true rfl) ?_
  rw [hz, nI_clamp (by omega), nI_clamp (by omega)]
  refine X_goto rfl ?_
  exact X_vret rfl rfl ⟨rfl, rfl⟩ (Nat.le_of_ble_eq_true rfl) (Nat.le_of_ble_eq_true rfl)
theorem j_putSt {G : XE} (hG : x_Kn G) (hK : x_KS G) {N : XH} (d : Nat) {o v n m p i : Nat} {f : Nat → Int32} (hN : N o = some (.inl (12, sbV v n))) (hi : i < 26) (hV : N v = some (sbA m f)) (hm : m ≤ 4000) (hp : p + (x_st i).length ≤ m) : x_M G mJ5_putStringAt_47b60 (d + 2) 0 0 [.ref o, .int (nI p), .ref (4 + i)] (N) (x_RetV (x_set N v (sbA m (va_cpy (fun j => (x_st i).getD j 0) f 0 p (x_st i).length)))) x_noX := by
  refine X_M hG okJ5_putStringAt_47b60 rfl (L := [some (.ref o), some (.int (nI p)), some (.ref (4 + i))]) rfl (Nat.le_of_ble_eq_true rfl) (fun ad0 nb0 => ?_)
  refine X_ld rfl rfl rfl rfl ?_
  refine X_ld rfl rfl rfl rfl ?_
  refine X_gvv lg_J5_397 (j_inflF hG hK d hN hi) hN rfl rfl rfl rfl (Nat.le_of_ble_eq_true rfl) (Nat.le_of_ble_eq_true rfl) (Nat.le_refl _) (Nat.le_of_ble_eq_true rfl) (Nat.le_of_ble_eq_true rfl) ?_
  refine X_ld rfl rfl rfl rfl ?_
  refine X_ld rfl rfl rfl rfl ?_
  refine X_get f_J5_15 rfl hN rfl ?_
  refine X_ld rfl rfl rfl rfl ?_
  refine X_ld rfl rfl rfl rfl ?_
  refine X_get f_J5_22 rfl hN rfl ?_
  refine X_callFv (o := 4 + i) (by omega) (hK.2.1 i hi).1 l_J5_J0_getBytes_840e7 (j_getBytes hG hK d hi hV hm hp) rfl rfl rfl (Nat.le_of_ble_eq_true rfl) (x_fit_of (Nat.le_of_ble_eq_true rfl) (Nat.le_refl _) (Nat.le_of_ble_eq_true rfl) (Nat.le_of_ble_eq_true rfl)) ?_
  exact X_vret rfl rfl ⟨rfl, rfl⟩ (Nat.le_of_ble_eq_true rfl) (Nat.le_of_ble_eq_true rfl)
theorem sb_put {b o v m : Nat} {N0 N : XH} {l : List Int32} {f : Nat → Int32} (k1 : ∀ k, k < b → N k = N0 k) (k2 : b ≤ o) (v1 : b ≤ v) (v2 : v ≠ o) (hm : l.length ≤ m ∧ m ≤ 602) (hf : ∀ j, j < l.length → f j = l.getD j 0) (hfit : ∀ j, j < m → fits .byte (.int (f j)) = true) : sb b N0 o 0 l (x_set (x_set N v (sbA m f)) o (.inl (12, sbV v l.length))) :=
  ⟨⟨fun k hk => (x_set_ne (by omega)).trans ((x_set_ne (by omega)).trans (k1 k hk)), k2⟩, v, m, f, ⟨v1, v2⟩, x_set_eq, (x_set_ne v2).trans x_set_eq, ⟨hm.1, Nat.zero_le _, hm.2⟩, hf, hfit⟩
theorem j_apS5 {G : XE} (hG : x_Kn G) (hK : x_KS G) {N : XH} (d : Nat) {b o q : Nat} {N0 : XH} {l : List Int32} (hb : 0 < b) (h0 : N0 0 = none) (hsb : sb b N0 o q l N) {i : Nat} (hi : i < 26) (hl : l.length + (x_st i).length ≤ 300) : x_M G mJ5_append_cf1ce (d + 4) 1 602 [.ref o, .ref (4 + i)] (N) (sbQ b N0 o 0 (l ++ x_st i)) x_noX := by
  refine X_M hG okJ5_append_cf1ce rfl (L := [some (.ref o), some (.ref (4 + i)), none]) rfl (Nat.le_of_ble_eq_true rfl) (fun ad0 nb0 => ?_)
  obtain ⟨⟨-, -⟩, v, m, f, ⟨-, -⟩, hN, -, ⟨-, -, -⟩, -, -⟩ := id hsb
  refine X_ld rfl rfl rfl rfl ?_
  refine X_ifnonnull rfl ?_
  refine X_ld rfl rfl rfl rfl ?_
  refine X_callF (o := 4 + i) (by omega) (hK.2.1 i hi).1 l_J5_J0_length_8abf5 (c_strlenT hG hK d i hi) rfl rfl rfl (Nat.le_of_ble_eq_true rfl) (x_fit_of (Nat.le_of_ble_eq_true rfl) (by omega) (by omega) (by omega)) ?_
  refine X_st rfl rfl rfl ?_
  refine X_ld rfl rfl rfl rfl ?_
  refine X_ld rfl rfl rfl rfl ?_
  refine X_get f_J5_79 rfl hN rfl ?_
  refine X_ld rfl rfl rfl rfl ?_
  refine X_bin rfl rfl ?_
  refine X_stk (st' := [.int (nI (l.length + (x_st i).length)), .ref o]) (congrArg (fun z => [Value.int z, .ref o]) (nI_add _ _)) ?_
  refine X_gcall lg_J5_100 (j_ensure hG hK d hb h0 hsb (q2 := l.length + (x_st i).length) (by omega)) hN rfl rfl rfl rfl (Nat.le_of_ble_eq_true rfl) (Nat.le_of_ble_eq_true rfl) (by omega) (Nat.le_of_ble_eq_true rfl) (Nat.le_of_ble_eq_true rfl) (fun N1 r hq => ?_)
  obtain ⟨rfl, hsb1⟩ := hq
  obtain ⟨⟨k1, k2⟩, v, m, f, ⟨v1, v2⟩, hN, hV, ⟨m1, m2, m3⟩, hf, hfit⟩ := id hsb1
  refine X_stk (st' := []) (rfl) ?_
  refine X_ld rfl rfl rfl rfl ?_
  refine X_ld rfl rfl rfl rfl ?_
  refine X_get f_J5_79 rfl hN rfl ?_
  refine X_ld rfl rfl rfl rfl ?_
  refine X_gvv lg_J5_208 (j_putSt hG hK d hN hi hV (by omega) (by omega)) hN rfl rfl rfl rfl (Nat.le_of_ble_eq_true rfl) (Nat.le_of_ble_eq_true rfl) (by omega) (Nat.le_of_ble_eq_true rfl) (Nat.le_of_ble_eq_true rfl) ?_
  have hN2 : x_set N1 v (sbA m (va_cpy (fun j => (x_st i).getD j 0) f 0 l.length (x_st i).length)) o = some (.inl (12, sbV v l.length)) := (x_set_ne (Ne.symm v2)).trans hN
  refine X_ld rfl rfl rfl rfl ?_
  refine X_dup rfl rfl ?_
  refine X_get f_J5_79 rfl hN2 rfl ?_
  refine X_ld rfl rfl rfl rfl ?_
  refine X_bin rfl rfl ?_
  refine X_stk (st' := [.int (nI (l ++ x_st i).length), .ref o]) (congrArg (fun z => [Value.int z, .ref o]) (by rw [List.length_append]; exact nI_add _ _)) ?_
  refine X_put f_J5_79 rfl hN2 ⟨rfl, rfl⟩ ?_
  rw [sbV_n]
  refine X_ld rfl rfl rfl rfl ?_
  exact X_aret rfl rfl (Or.inl ⟨_, rfl⟩) (Or.inr ⟨_, rfl⟩) ⟨rfl, sb_put k1 k2 v1 v2 ⟨by rw [List.length_append]; omega, m3⟩ (sb_ct hf) (va_cpy_fit (fun j hj => fits_b (x_st_mem i j hj).2.2.1 (x_st_mem i j hj).2.2.2) hfit)⟩ (Nat.le_of_ble_eq_true rfl) (Nat.le_of_ble_eq_true rfl)
theorem upd_fit {f : Nat → Int32} {m p : Nat} {x : Int32} (hf : ∀ j, j < m → fits .byte (.int (f j)) = true) (hx : fits .byte (.int x) = true) : ∀ j, j < m → fits .byte (.int (upd f p x j)) = true := fun j hj => by
  unfold upd
  by_cases h : j = p
  · rw [if_pos h]; exact hx
  · rw [if_neg h]; exact hf j hj
theorem sb_upd {l : List Int32} {f : Nat → Int32} {x : Int32} (hf : ∀ j, j < l.length → f j = l.getD j 0) : ∀ j, j < (l ++ [x]).length → upd f l.length x j = (l ++ [x]).getD j 0 := by
  intro j hj
  rw [List.length_append, List.length_singleton] at hj
  unfold upd
  by_cases h : j = l.length
  · rw [if_pos h, h, l_getD_r (Nat.le_refl _), Nat.sub_self]
    rfl
  · rw [if_neg h, l_getD_l (by omega)]
    exact hf j (by omega)
theorem narB {x : Int32} (h0 : 0 ≤ x) (h1 : x ≤ 127) : narrow .byte (.int x) = .int x ∧ x.toInt8.toInt32 = x := by
  have a := Int32.le_iff_toInt_le.mp h0
  have b := Int32.le_iff_toInt_le.mp h1
  rw [Int32.toInt_zero] at a
  rw [show (127 : Int32).toInt = 127 by decide] at b
  have e : x.toInt8.toInt32 = x := by
    apply Int32.toInt_inj.mp
    rw [Int8.toInt_toInt32, Int32.toInt_toInt8, Int.bmod_eq_of_le (by omega) (by omega)]
  exact ⟨congrArg Value.int e, e⟩
theorem j_canEnc {G : XE} (hG : x_Kn G) {N : XH} (d : Nat) {x : Int32} (h1 : x ≤ 127) : x_M G mJ1_canEncode_fc78d (d) 0 0 [.int x] (N) (x_Ret N (.int 1)) x_noX := by
  refine X_M hG okJ1_canEncode_fc78d rfl (L := [some (.int x)]) rfl (Nat.le_of_ble_eq_true rfl) (fun ad0 nb0 => ?_)
  refine X_ld rfl rfl rfl rfl ?_
  refine X_push (v := .int 255) rfl (by decide +kernel) ?_
  refine X_icmp_gt rfl (fun c => absurd (Int32.lt_iff_toInt_lt.mp c) (by have := Int32.le_iff_toInt_le.mp h1; rw [show (127 : Int32).toInt = 127 by decide] at this; rw [show (255 : Int32).toInt = 255 by decide]; omega)) (fun _ => ?_)
  refine X_push (v := .int 1) rfl (by decide +kernel) ?_
  refine X_goto rfl ?_
  exact X_zret rfl rfl (by decide) ⟨rfl, rfl⟩ (Nat.le_of_ble_eq_true rfl) (Nat.le_of_ble_eq_true rfl)
theorem j_apC5 {G : XE} (hG : x_Kn G) (hK : x_KS G) {N : XH} (d : Nat) {b o q : Nat} {N0 : XH} {l : List Int32} (hb : 0 < b) (h0 : N0 0 = none) (hsb : sb b N0 o q l N) {x : Int32} (hx : 0 ≤ x ∧ x ≤ 127) (hl : l.length + 1 ≤ 300) : x_M G mJ5_append_3fe6f (d + 4) 1 602 [.ref o, .int x] (N) (sbQ b N0 o 0 (l ++ [x])) x_noX := by
  refine X_M hG okJ5_append_3fe6f rfl (L := [some (.ref o), some (.int x)]) rfl (Nat.le_of_ble_eq_true rfl) (fun ad0 nb0 => ?_)
  obtain ⟨⟨-, -⟩, v, m, f, ⟨-, -⟩, hN, -, ⟨-, -, -⟩, -, -⟩ := id hsb
  refine X_ld rfl rfl rfl rfl ?_
  refine X_ld rfl rfl rfl rfl ?_
  refine X_get f_J5_79 rfl hN rfl ?_
  refine X_push (v := .int 1) rfl (by decide +kernel) ?_
  refine X_bin rfl rfl ?_
  refine X_stk (st' := [.int (nI (l.length + 1)), .ref o]) (congrArg (fun z => [Value.int z, .ref o]) (nI_add l.length 1)) ?_
  refine X_gcall lg_J5_100 (j_ensure hG hK d hb h0 hsb (q2 := l.length + 1) (by omega)) hN rfl rfl rfl rfl (Nat.le_of_ble_eq_true rfl) (Nat.le_of_ble_eq_true rfl) (by omega) (Nat.le_of_ble_eq_true rfl) (Nat.le_of_ble_eq_true rfl) (fun N1 r hq => ?_)
  obtain ⟨rfl, hsb1⟩ := hq
  obtain ⟨⟨k1, k2⟩, v, m, f, ⟨v1, v2⟩, hN, hV, ⟨m1, m2, m3⟩, hf, hfit⟩ := id hsb1
  refine X_stk (st' := []) (rfl) ?_
  refine X_ld rfl rfl rfl rfl ?_
  refine X_gv lg_J5_83 (j_isLatin1 hG hK d hN) hN rfl rfl rfl rfl (Nat.le_of_ble_eq_true rfl) (Nat.le_of_ble_eq_true rfl) (by omega) (Nat.le_of_ble_eq_true rfl) (Nat.le_of_ble_eq_true rfl) ?_
  refine X_if_eq rfl (fun c => absurd c (by decide)) (fun _ => ?_)
  refine X_ld rfl rfl rfl rfl ?_
  refine X_scall l_J5_J1_canEncode_fc78d (j_canEnc hG d hx.2) rfl rfl rfl (Nat.le_of_ble_eq_true rfl) (Nat.le_of_ble_eq_true rfl) (by omega) (Nat.le_of_ble_eq_true rfl) (Nat.le_of_ble_eq_true rfl) ?_
  refine X_if_eq rfl (fun c => absurd c (by decide)) (fun _ => ?_)
  refine X_ld rfl rfl rfl rfl ?_
  refine X_get f_J5_15 rfl hN rfl ?_
  refine X_ld rfl rfl rfl rfl ?_
  refine X_dup rfl rfl ?_
  refine X_get f_J5_79 rfl hN rfl ?_
  refine X_dup_x1 rfl rfl rfl ?_
  refine X_push (v := .int 1) rfl (by decide +kernel) ?_
  refine X_bin rfl rfl ?_
  refine X_stk (st' := [.int (nI (l ++ [x]).length), .ref o, .int (nI l.length), .ref v]) (congrArg (fun z => [Value.int z, .ref o, .int (nI l.length), .ref v]) (by rw [List.length_append]; exact nI_add _ 1)) ?_
  refine X_put f_J5_79 rfl hN ⟨rfl, rfl⟩ ?_
  rw [sbV_n]
  refine X_ld rfl rfl rfl rfl ?_
  refine X_un rfl rfl ?_
  refine X_stk (st' := [.int x, .int (nI l.length), .ref v]) (congrArg (fun z => [Value.int z, .int (nI l.length), .ref v]) (narB hx.1 hx.2).2) ?_
  refine X_bast rfl ((x_set_ne v2).trans hV) (vp_in_nI (by omega) (by omega)) (narB hx.1 hx.2).1 ?_
  rw [updV_int, nI_clamp (by omega)]
  refine X_goto rfl ?_
  refine X_ld rfl rfl rfl rfl ?_
  refine X_heap (N' := x_set (x_set N1 v (sbA m (upd f l.length x))) o (.inl (12, sbV v (l ++ [x]).length))) (x_set_sw v2.symm) ?_
  exact X_aret rfl rfl (Or.inl ⟨_, rfl⟩) (Or.inr ⟨_, rfl⟩) ⟨rfl, sb_put k1 k2 v1 v2 ⟨by rw [List.length_append]; exact m2, m3⟩ (sb_upd hf) (upd_fit hfit (fits_b hx.1 hx.2))⟩ (Nat.le_of_ble_eq_true rfl) (Nat.le_of_ble_eq_true rfl)
/-- the digits of a number below 12 -/
def dg (k : Nat) : List Int32 := if k < 10 then [nI (48 + k)] else [49, nI (38 + k)]
def dg_O (j : Nat) : Int32 := nI (48 + j % 10)
def dg_T (j : Nat) : Int32 := nI (48 + j / 10)
theorem dg_len {k : Nat} : (dg k).length = if k < 10 then 1 else 2 := by
  unfold dg
  by_cases h : k < 10
  · rw [if_pos h, if_pos h]; rfl
  · rw [if_neg h, if_neg h]; rfl
/-- Integer's digits, frozen at names 57 and 58 -/
def x_KD (G : XE) : Prop := (va_Z "java/lang/Integer" "DigitOnes" "[B" (.ref (x_ad G 57)) (x_A G) (x_S G) (x_S G).heap ∧ va_T .byte (x_ad G 57) 100 (fun j => .int (dg_O j)) (x_A G) (x_S G) (x_S G).heap) ∧ va_Z "java/lang/Integer" "DigitTens" "[B" (.ref (x_ad G 58)) (x_A G) (x_S G) (x_S G).heap ∧ va_T .byte (x_ad G 58) 100 (fun j => .int (dg_T j)) (x_A G) (x_S G) (x_S G).heap
theorem y_neg_le {k : Nat} (hk : k < 12) : (¬ -(nI k) ≤ -100) ∧ (-(nI k) ≤ -10 ↔ 10 ≤ k) ∧ (-9 ≤ -(nI k) ↔ k < 10) ∧ ((-100 : Int32) < -(nI k)) ∧ -(-(nI k)) = nI k := by
  have h : ∀ k, k < 12 → (¬ -(nI k) ≤ -100) ∧ (-(nI k) ≤ -10 ↔ 10 ≤ k) ∧ (-9 ≤ -(nI k) ↔ k < 10) ∧ ((-100 : Int32) < -(nI k)) ∧ -(-(nI k)) = nI k := by decide +kernel
  exact h k hk
theorem j_strSize {G : XE} (hG : x_Kn G) {N : XH} (d : Nat) {k : Nat} (hk : k < 12) : x_M G mJ6_stringSize_0f7a4 (d) 0 0 [.int (nI k)] (N) (x_Ret N (.int (nI (dg k).length))) x_noX := by
  refine X_M hG okJ6_stringSize_0f7a4 rfl (L := [some (.int (nI k)), none, none, none]) rfl (Nat.le_of_ble_eq_true rfl) (fun ad0 nb0 => ?_)
  obtain ⟨-, g2, -, -, -⟩ := y_neg_le hk
  refine X_push (v := .int 1) rfl (by decide +kernel) ?_
  refine X_st rfl rfl rfl ?_
  refine X_ld rfl rfl rfl rfl ?_
  refine X_if_lt rfl (fun c => absurd c (Int32.not_lt.mpr (nI_ge0 (by omega)))) (fun _ => ?_)
  refine X_push (v := .int 0) rfl (by decide +kernel) ?_
  refine X_st rfl rfl rfl ?_
  refine X_ld rfl rfl rfl rfl ?_
  refine X_ineg rfl ?_
  refine X_st rfl rfl rfl ?_
  refine X_push (v := .int (-10)) rfl (by decide +kernel) ?_
  refine X_st rfl rfl rfl ?_
  refine X_push (v := .int 1) rfl (by decide +kernel) ?_
  refine X_st rfl rfl rfl ?_
  refine X_ld rfl rfl rfl rfl ?_
  refine X_push (v := .int 10) rfl (by decide +kernel) ?_
  refine X_icmp_ge rfl (fun c => absurd c (by decide)) (fun _ => ?_)
  refine X_ld rfl rfl rfl rfl ?_
  refine X_ld rfl rfl rfl rfl ?_
  refine X_icmp_le rfl (fun c => ?_) (fun c => ?_)
  · have h10 : ¬ k < 10 := by have := g2.mp c; omega
    refine X_push (v := .int 10) rfl (by decide +kernel) ?_
    refine X_ld rfl rfl rfl rfl ?_
    refine X_bin rfl rfl ?_
    refine X_st rfl rfl rfl ?_
    refine X_iinc rfl rfl rfl ?_
    refine X_goto rfl ?_
    refine X_ld rfl rfl rfl rfl ?_
    refine X_push (v := .int 10) rfl (by decide +kernel) ?_
    refine X_icmp_ge rfl (fun c => absurd c (by decide)) (fun _ => ?_)
    refine X_ld rfl rfl rfl rfl ?_
    refine X_ld rfl rfl rfl rfl ?_
    refine X_icmp_le rfl (fun c => absurd c ?_) (fun _ => ?_)
    · have h : ∀ k, k < 12 → ¬ (-(nI k) ≤ (Int8.ofInt 10).toInt32 * (Int8.ofInt (-10)).toInt32) := by decide +kernel
      exact h k hk
    · refine X_ld rfl rfl rfl rfl ?_
      refine X_ld rfl rfl rfl rfl ?_
      refine X_bin rfl rfl ?_
      rw [dg_len, if_neg h10]
      exact X_iret rfl rfl ⟨rfl, rfl⟩ (Nat.le_of_ble_eq_true rfl) (Nat.le_of_ble_eq_true rfl)
  · have h10 : k < 10 := by
      have : ¬ 10 ≤ k := fun q => c (g2.mpr q)
      omega
    refine X_ld rfl rfl rfl rfl ?_
    refine X_ld rfl rfl rfl rfl ?_
    refine X_bin rfl rfl ?_
    rw [dg_len, if_pos h10]
    exact X_iret rfl rfl ⟨rfl, rfl⟩ (Nat.le_of_ble_eq_true rfl) (Nat.le_of_ble_eq_true rfl)
theorem dg_nar : ∀ k, k < 12 → narrow .byte (.int (dg_O k)) = .int (dg_O k) ∧ narrow .byte (.int (dg_T k)) = .int (dg_T k) := fun k hk => by
  have h : ∀ k, k < 12 → ((0 : Int32) ≤ dg_O k ∧ dg_O k ≤ 127) ∧ (0 : Int32) ≤ dg_T k ∧ dg_T k ≤ 127 := by decide +kernel
  obtain ⟨⟨a, b⟩, c, e⟩ := h k hk
  exact ⟨(narB a b).1, (narB c e).1⟩
theorem dg_one {f : Nat → Int32} {p k : Nat} (h : k < 10) : upd f (p + (dg k).length - 1) (dg_O k) = va_cpy (fun j => (dg k).getD j 0) f 0 p (dg k).length := by
  have e : dg k = [nI (48 + k)] := if_pos h
  rw [e]
  funext j
  show (if j = p + 1 - 1 then dg_O k else f j) = if p ≤ j ∧ j < p + 1 then [nI (48 + k)].getD (0 + (j - p)) 0 else f j
  by_cases hj : j = p
  · subst hj
    rw [if_pos (by omega), if_pos ⟨by omega, by omega⟩, Nat.sub_self]
    show nI (48 + k % 10) = nI (48 + k)
    rw [Nat.mod_eq_of_lt h]
  · rw [if_neg (by omega), if_neg (by omega)]
theorem dg_two {f : Nat → Int32} {p k : Nat} (h : ¬ k < 10) (hk : k < 12) : upd (upd f (p + (dg k).length - 1) (dg_O k)) p (dg_T k) = va_cpy (fun j => (dg k).getD j 0) f 0 p (dg k).length := by
  have e : dg k = [49, nI (38 + k)] := if_neg h
  rw [e]
  funext j
  show (if j = p then dg_T k else if j = p + 2 - 1 then dg_O k else f j) = if p ≤ j ∧ j < p + 2 then [49, nI (38 + k)].getD (0 + (j - p)) 0 else f j
  by_cases hj : j = p
  · subst hj
    rw [if_pos rfl, if_pos ⟨by omega, by omega⟩, Nat.sub_self]
    show nI (48 + k / 10) = 49
    rw [show k / 10 = 1 by omega]
    rfl
  · rw [if_neg hj]
    by_cases hj2 : j = p + 1
    · subst hj2
      rw [if_pos (by omega), if_pos ⟨by omega, by omega⟩, Nat.add_sub_cancel_left]
      show nI (48 + k % 10) = nI (38 + k)
      rw [show 48 + k % 10 = 38 + k by omega]
    · rw [if_neg (by omega), if_neg (by omega)]
theorem dg_fit {k : Nat} (hk : k < 12) : ∀ j, j < (dg k).length → fits .byte (.int ((dg k).getD j 0)) = true := by
  have h : ∀ k, k < 12 → ∀ j, j < (dg k).length → ((0 : Int32) ≤ (dg k).getD j 0 ∧ (dg k).getD j 0 ≤ 127) := by decide +kernel
  exact fun j hj => fits_b (h k hk j hj).1 (h k hk j hj).2
theorem j_getChars {G : XE} (hG : x_Kn G) {N : XH} (d : Nat) (hD : x_KD G) {k p v m : Nat} {f : Nat → Int32} (hk : k < 12) (hV : N v = some (sbA m f)) (hp : p + (dg k).length ≤ m) (hm : m ≤ 4000) : x_M G mJ6_getChars_ba4f3 (d) 0 0 [.int (nI k), .int (nI (p + (dg k).length)), .ref v] (N) (fun N' r => (∃ x, r = some (.int x)) ∧ N' = x_set N v (sbA m (va_cpy (fun j => (dg k).getD j 0) f 0 p (dg k).length))) x_noX := by
  refine X_M hG okJ6_getChars_ba4f3 rfl (L := [some (.int (nI k)), some (.int (nI (p + (dg k).length))), some (.ref v), none, none, none, none]) rfl (Nat.le_of_ble_eq_true rfl) (fun ad0 nb0 => ?_)
  obtain ⟨-, -, g3, g4, g5⟩ := y_neg_le hk
  have hL := dg_len (k := k)
  refine X_ld rfl rfl rfl rfl ?_
  refine X_st rfl rfl rfl ?_
  refine X_ld rfl rfl rfl rfl ?_
  refine X_if_ge rfl (fun _ => ?_) (fun c => absurd (nI_ge0 (by omega)) c)
  refine X_push (v := .int 0) rfl (by decide +kernel) ?_
  refine X_st rfl rfl rfl ?_
  refine X_ld rfl rfl rfl rfl ?_
  refine X_if_ne rfl (fun c => absurd rfl c) (fun _ => ?_)
  refine X_ld rfl rfl rfl rfl ?_
  refine X_ineg rfl ?_
  refine X_st rfl rfl rfl ?_
  refine X_ld rfl rfl rfl rfl ?_
  refine X_push (v := .int (-100)) rfl (by decide +kernel) ?_
  refine X_icmp_gt rfl (fun _ => ?_) (fun c => absurd g4 c)
  refine X_ld rfl rfl rfl rfl ?_
  refine X_iinc rfl rfl rfl ?_
  refine X_ld rfl rfl rfl rfl ?_
  refine X_stk (st' := [.int (nI (p + (dg k).length - 1)), .ref v]) (congrArg (fun z => [Value.int z, .ref v]) (m_dec (by rw [hL]; split <;> omega) rfl)) ?_
  refine X_gets (v := .ref 57) fs_J6_83 hD.1.1 (show (57 : Nat) < 64 by decide) rfl ?_
  refine X_ld rfl rfl rfl rfl ?_
  refine X_ineg rfl ?_
  refine X_stk (st' := [.int (nI k), .ref 57, .int (nI (p + (dg k).length - 1)), .ref v]) (congrArg (fun z => [Value.int z, .ref 57, .int (nI (p + (dg k).length - 1)), .ref v]) g5) ?_
  refine X_baldS k (by decide) hD.1.2 rfl (by omega) (by decide) rfl ?_
  refine X_bast rfl hV (vp_in_nI (by have h1 : 1 ≤ (dg k).length := (by rw [hL]; split <;> omega); omega) (by omega)) (dg_nar k hk).1 ?_
  rw [updV_int, nI_clamp (by omega)]
  refine X_ld rfl rfl rfl rfl ?_
  refine X_push (v := .int (-9)) rfl (by decide +kernel) ?_
  refine X_icmp_ge rfl (fun c => ?_) (fun c => ?_)
  · have h10 := g3.mp c
    refine X_ld rfl rfl rfl rfl ?_
    refine X_if_eq rfl (fun _ => ?_) (fun c => absurd rfl c)
    refine X_ld rfl rfl rfl rfl ?_
    exact X_iret rfl rfl ⟨⟨_, rfl⟩, congrArg (fun z => x_set N v (sbA m z)) (dg_one h10)⟩ (Nat.le_of_ble_eq_true rfl) (Nat.le_of_ble_eq_true rfl)
  · have h10 : ¬ k < 10 := fun q => c (g3.mpr q)
    refine X_ld rfl rfl rfl rfl ?_
    refine X_iinc rfl rfl rfl ?_
    refine X_ld rfl rfl rfl rfl ?_
    refine X_stk (st' := [.int (nI p), .ref v]) (congrArg (fun z => [Value.int z, .ref v]) (by rw [m_dec (x := nI (p + (dg k).length) + Int32.ofInt (-1)) (a := p + (dg k).length - 1) (by rw [hL, if_neg h10]; omega) (m_dec (by rw [hL, if_neg h10]; omega) rfl), hL, if_neg h10]; rfl)) ?_
    refine X_gets (v := .ref 58) fs_J6_87 hD.2.1 (show (58 : Nat) < 64 by decide) rfl ?_
    refine X_ld rfl rfl rfl rfl ?_
    refine X_ineg rfl ?_
    refine X_stk (st' := [.int (nI k), .ref 58, .int (nI p), .ref v]) (congrArg (fun z => [Value.int z, .ref 58, .int (nI p), .ref v]) g5) ?_
    refine X_baldS k (by decide) hD.2.2 rfl (by omega) (by decide) rfl ?_
    refine X_bast rfl x_set_eq (vp_in_nI (by rw [hL, if_neg h10] at hp; omega) (by omega)) (dg_nar k hk).2 ?_
    rw [updV_int, nI_clamp (by omega), x_set_set]
    refine X_ld rfl rfl rfl rfl ?_
    refine X_if_eq rfl (fun _ => ?_) (fun c => absurd rfl c)
    refine X_ld rfl rfl rfl rfl ?_
    exact X_iret rfl rfl ⟨⟨_, rfl⟩, congrArg (fun z => x_set N v (sbA m z)) (dg_two h10 hk)⟩ (Nat.le_of_ble_eq_true rfl) (Nat.le_of_ble_eq_true rfl)
theorem j_apI5 {G : XE} (hG : x_Kn G) (hK : x_KS G) {N : XH} (d : Nat) (hD : x_KD G) {b o q : Nat} {N0 : XH} {l : List Int32} (hb : 0 < b) (h0 : N0 0 = none) (hsb : sb b N0 o q l N) {k : Nat} (hk : k < 12) (hl : l.length + 2 ≤ 300) : x_M G mJ5_append_c97b9 (d + 4) 1 602 [.ref o, .int (nI k)] (N) (sbQ b N0 o 0 (l ++ dg k)) x_noX := by
  refine X_M hG okJ5_append_c97b9 rfl (L := [some (.ref o), some (.int (nI k)), none, none]) rfl (Nat.le_of_ble_eq_true rfl) (fun ad0 nb0 => ?_)
  obtain ⟨⟨-, -⟩, v, m, f, ⟨-, -⟩, hN, -, ⟨-, -, -⟩, -, -⟩ := id hsb
  have hL : (dg k).length ≤ 2 := by rw [dg_len]; split <;> omega
  refine X_ld rfl rfl rfl rfl ?_
  refine X_get f_J5_79 rfl hN rfl ?_
  refine X_st rfl rfl rfl ?_
  refine X_ld rfl rfl rfl rfl ?_
  refine X_ld rfl rfl rfl rfl ?_
  refine X_scall l_J5_J6_stringSize_0f7a4 (j_strSize hG d hk) rfl rfl rfl (Nat.le_of_ble_eq_true rfl) (Nat.le_of_ble_eq_true rfl) (by omega) (Nat.le_of_ble_eq_true rfl) (Nat.le_of_ble_eq_true rfl) ?_
  refine X_bin rfl rfl ?_
  refine X_stk (st' := [.int (nI (l.length + (dg k).length))]) (congrArg (fun z => [Value.int z]) (nI_add _ _)) ?_
  refine X_st rfl rfl rfl ?_
  refine X_ld rfl rfl rfl rfl ?_
  refine X_ld rfl rfl rfl rfl ?_
  refine X_gcall lg_J5_100 (j_ensure hG hK d hb h0 hsb (q2 := l.length + (dg k).length) (by omega)) hN rfl rfl rfl rfl (Nat.le_of_ble_eq_true rfl) (Nat.le_of_ble_eq_true rfl) (by omega) (Nat.le_of_ble_eq_true rfl) (Nat.le_of_ble_eq_true rfl) (fun N1 r hq => ?_)
  obtain ⟨rfl, hsb1⟩ := hq
  obtain ⟨⟨k1, k2⟩, v, m, f, ⟨v1, v2⟩, hN, hV, ⟨m1, m2, m3⟩, hf, hfit⟩ := id hsb1
  refine X_stk (st' := []) (rfl) ?_
  refine X_ld rfl rfl rfl rfl ?_
  refine X_gv lg_J5_83 (j_isLatin1 hG hK d hN) hN rfl rfl rfl rfl (Nat.le_of_ble_eq_true rfl) (Nat.le_of_ble_eq_true rfl) (by omega) (Nat.le_of_ble_eq_true rfl) (Nat.le_of_ble_eq_true rfl) ?_
  refine X_if_eq rfl (fun c => absurd c (by decide)) (fun _ => ?_)
  refine X_ld rfl rfl rfl rfl ?_
  refine X_ld rfl rfl rfl rfl ?_
  refine X_ld rfl rfl rfl rfl ?_
  refine X_get f_J5_15 rfl hN rfl ?_
  refine X_scallP l_J5_J6_getChars_ba4f3 (j_getChars hG d hD hk hV (by omega) (by omega)) rfl rfl rfl (Nat.le_of_ble_eq_true rfl) (Nat.le_of_ble_eq_true rfl) (by omega) (Nat.le_of_ble_eq_true rfl) (Nat.le_of_ble_eq_true rfl) (fun N2 r hq => ?_)
  obtain ⟨⟨x, rfl⟩, rfl⟩ := hq
  refine X_stk (st' := [.int x]) (rfl) ?_
  refine X_pop rfl rfl ?_
  refine X_goto rfl ?_
  refine X_ld rfl rfl rfl rfl ?_
  refine X_ld rfl rfl rfl rfl ?_
  refine X_stk (st' := [.int (nI (l ++ dg k).length), .ref o]) (congrArg (fun z => [Value.int z, .ref o]) (by rw [List.length_append])) ?_
  refine X_put f_J5_79 rfl ((x_set_ne (Ne.symm v2)).trans hN) ⟨rfl, rfl⟩ ?_
  rw [sbV_n]
  refine X_ld rfl rfl rfl rfl ?_
  exact X_aret rfl rfl (Or.inl ⟨_, rfl⟩) (Or.inr ⟨_, rfl⟩) ⟨rfl, sb_put k1 k2 v1 v2 ⟨by rw [List.length_append]; omega, m3⟩ (sb_ct hf) (va_cpy_fit (dg_fit hk) hfit)⟩ (Nat.le_of_ble_eq_true rfl) (Nat.le_of_ble_eq_true rfl)
theorem j_apS {G : XE} (hG : x_Kn G) (hK : x_KS G) {N : XH} (d : Nat) {b o q : Nat} {N0 : XH} {l : List Int32} (hb : 0 < b) (h0 : N0 0 = none) (hsb : sb b N0 o q l N) {i : Nat} (hi : i < 26) (hl : l.length + (x_st i).length ≤ 300) : x_M G mJ4_append_15ec4 (d + 5) 1 602 [.ref o, .ref (4 + i)] (N) (sbQ b N0 o 0 (l ++ x_st i)) x_noX := by
  refine X_M hG okJ4_append_15ec4 rfl (L := [some (.ref o), some (.ref (4 + i))]) rfl (Nat.le_of_ble_eq_true rfl) (fun ad0 nb0 => ?_)
  obtain ⟨⟨-, -⟩, v, m, f, ⟨-, -⟩, hN, -, ⟨-, -, -⟩, -, -⟩ := id hsb
  refine X_ld rfl rfl rfl rfl ?_
  refine X_ld rfl rfl rfl rfl ?_
  refine X_sucall ls_J4_29 (j_apS5 hG hK d hb h0 hsb hi hl) hN rfl rfl rfl rfl (Nat.le_of_ble_eq_true rfl) (Nat.le_of_ble_eq_true rfl) (Nat.le_refl _) (Nat.le_of_ble_eq_true rfl) (Nat.le_of_ble_eq_true rfl) (fun N1 r hq => ?_)
  obtain ⟨rfl, hq⟩ := hq
  refine X_stk (st' := [.ref o]) (rfl) ?_
  refine X_pop rfl rfl ?_
  refine X_ld rfl rfl rfl rfl ?_
  exact X_aret rfl rfl (Or.inl ⟨_, rfl⟩) (Or.inr ⟨_, rfl⟩) ⟨rfl, hq⟩ (Nat.le_of_ble_eq_true rfl) (Nat.le_of_ble_eq_true rfl)
theorem j_apC {G : XE} (hG : x_Kn G) (hK : x_KS G) {N : XH} (d : Nat) {b o q : Nat} {N0 : XH} {l : List Int32} (hb : 0 < b) (h0 : N0 0 = none) (hsb : sb b N0 o q l N) {x : Int32} (hx : 0 ≤ x ∧ x ≤ 127) (hl : l.length + 1 ≤ 300) : x_M G mJ4_append_cf468 (d + 5) 1 602 [.ref o, .int x] (N) (sbQ b N0 o 0 (l ++ [x])) x_noX := by
  refine X_M hG okJ4_append_cf468 rfl (L := [some (.ref o), some (.int x)]) rfl (Nat.le_of_ble_eq_true rfl) (fun ad0 nb0 => ?_)
  obtain ⟨⟨-, -⟩, v, m, f, ⟨-, -⟩, hN, -, ⟨-, -, -⟩, -, -⟩ := id hsb
  refine X_ld rfl rfl rfl rfl ?_
  refine X_ld rfl rfl rfl rfl ?_
  refine X_sucall ls_J4_50 (j_apC5 hG hK d hb h0 hsb hx hl) hN rfl rfl rfl rfl (Nat.le_of_ble_eq_true rfl) (Nat.le_of_ble_eq_true rfl) (Nat.le_refl _) (Nat.le_of_ble_eq_true rfl) (Nat.le_of_ble_eq_true rfl) (fun N1 r hq => ?_)
  obtain ⟨rfl, hq⟩ := hq
  refine X_stk (st' := [.ref o]) (rfl) ?_
  refine X_pop rfl rfl ?_
  refine X_ld rfl rfl rfl rfl ?_
  exact X_aret rfl rfl (Or.inl ⟨_, rfl⟩) (Or.inr ⟨_, rfl⟩) ⟨rfl, hq⟩ (Nat.le_of_ble_eq_true rfl) (Nat.le_of_ble_eq_true rfl)
theorem j_apI {G : XE} (hG : x_Kn G) (hK : x_KS G) {N : XH} (d : Nat) (hD : x_KD G) {b o q : Nat} {N0 : XH} {l : List Int32} (hb : 0 < b) (h0 : N0 0 = none) (hsb : sb b N0 o q l N) {k : Nat} (hk : k < 12) (hl : l.length + 2 ≤ 300) : x_M G mJ4_append_bf812 (d + 5) 1 602 [.ref o, .int (nI k)] (N) (sbQ b N0 o 0 (l ++ dg k)) x_noX := by
  refine X_M hG okJ4_append_bf812 rfl (L := [some (.ref o), some (.int (nI k))]) rfl (Nat.le_of_ble_eq_true rfl) (fun ad0 nb0 => ?_)
  obtain ⟨⟨-, -⟩, v, m, f, ⟨-, -⟩, hN, -, ⟨-, -, -⟩, -, -⟩ := id hsb
  refine X_ld rfl rfl rfl rfl ?_
  refine X_ld rfl rfl rfl rfl ?_
  refine X_sucall ls_J4_53 (j_apI5 hG hK d hD hb h0 hsb hk hl) hN rfl rfl rfl rfl (Nat.le_of_ble_eq_true rfl) (Nat.le_of_ble_eq_true rfl) (Nat.le_refl _) (Nat.le_of_ble_eq_true rfl) (Nat.le_of_ble_eq_true rfl) (fun N1 r hq => ?_)
  obtain ⟨rfl, hq⟩ := hq
  refine X_stk (st' := [.ref o]) (rfl) ?_
  refine X_pop rfl rfl ?_
  refine X_ld rfl rfl rfl rfl ?_
  exact X_aret rfl rfl (Or.inl ⟨_, rfl⟩) (Or.inr ⟨_, rfl⟩) ⟨rfl, hq⟩ (Nat.le_of_ble_eq_true rfl) (Nat.le_of_ble_eq_true rfl)
theorem j_bridge {G : XE} (hG : x_Kn G) (hK : x_KS G) {N : XH} (d : Nat) {b o q : Nat} {N0 : XH} {l : List Int32} (hb : 0 < b) (h0 : N0 0 = none) (hsb : sb b N0 o q l N) {i : Nat} (hi : i < 26) (hl : l.length + (x_st i).length ≤ 300) : x_M G mJ4_append_cf1ce (d + 6) 1 602 [.ref o, .ref (4 + i)] (N) (sbQ b N0 o 0 (l ++ x_st i)) x_noX := by
  refine X_M hG okJ4_append_cf1ce rfl (L := [some (.ref o), some (.ref (4 + i))]) rfl (Nat.le_of_ble_eq_true rfl) (fun ad0 nb0 => ?_)
  obtain ⟨⟨-, -⟩, v, m, f, ⟨-, -⟩, hN, -, ⟨-, -, -⟩, -, -⟩ := id hsb
  refine X_ld rfl rfl rfl rfl ?_
  refine X_ld rfl rfl rfl rfl ?_
  refine X_vcallP hN lb_J4_23 (j_apS hG hK d hb h0 hsb hi hl) rfl rfl rfl rfl (Nat.le_of_ble_eq_true rfl) (Nat.le_of_ble_eq_true rfl) (Nat.le_refl _) (Nat.le_of_ble_eq_true rfl) (Nat.le_of_ble_eq_true rfl) (fun N1 r hq => ?_)
  obtain ⟨rfl, hq⟩ := hq
  refine X_stk (st' := [.ref o]) (rfl) ?_
  exact X_aret rfl rfl (Or.inl ⟨_, rfl⟩) (Or.inr ⟨_, rfl⟩) ⟨rfl, hq⟩ (Nat.le_of_ble_eq_true rfl) (Nat.le_of_ble_eq_true rfl)
theorem j_sbI5 {G : XE} (hG : x_Kn G) (hK : x_KS G) {N : XH} (d : Nat) {b o : Nat} {N0 : XH} (hb : 0 < b) (hb64 : b ≤ o) (h0 : N0 0 = none) (hk0 : ∀ k, k < b → N k = N0 k) (hN : N o = some (.inl (12, y_dfl tyJ4))) {i : Nat} (hi : i < 26) : x_M G mJ5_init_a7421 (d + 7) 2 682 [.ref o, .ref (4 + i)] (N) (sbQv b N0 o 0 (x_st i)) x_noX := by
  refine X_M hG okJ5_init_a7421 rfl (L := [some (.ref o), some (.ref (4 + i)), none, none, none]) rfl (Nat.le_of_ble_eq_true rfl) (fun ad0 nb0 => ?_)
  have h64 := x_st_len i
  have hn0 : N 0 = none := (hk0 0 hb).trans h0
  refine X_ld rfl rfl rfl rfl ?_
  refine X_obj ob_J5 ob_i ob_c rfl (by show 1 ≤ d + _; omega) (by show _ ≤ 100 * (d + _); simp; omega) ?_
  refine X_ld rfl rfl rfl rfl ?_
  refine X_callF (o := 4 + i) (by omega) (hK.2.1 i hi).1 l_J5_J0_length_8abf5 (c_strlenT hG hK d i hi) rfl rfl rfl (Nat.le_of_ble_eq_true rfl) (x_fit_of (Nat.le_of_ble_eq_true rfl) (by omega) (by omega) (by omega)) ?_
  refine X_st rfl rfl rfl ?_
  refine X_ld rfl rfl rfl rfl ?_
  refine X_ldc k_J5_38 rfl ?_
  refine X_icmp_ge rfl (fun c => absurd ((n_le (show (2147483631 : Int32) = nI 2147483631 from rfl) rfl (by decide) (by omega)).mp c) (by omega)) (fun _ => ?_)
  refine X_ld rfl rfl rfl rfl ?_
  refine X_push (v := .int 16) rfl (by decide +kernel) ?_
  refine X_bin rfl rfl ?_
  refine X_stk (st' := [.int (nI ((x_st i).length + 16))]) (congrArg (fun z => [Value.int z]) (nI_add _ 16)) ?_
  refine X_goto rfl ?_
  refine X_st rfl rfl rfl ?_
  refine X_ld rfl rfl rfl rfl ?_
  refine X_callF (o := 4 + i) (by omega) (hK.2.1 i hi).1 l_J5_J0_coder_7d493 (c_coder hG hK d i hi) rfl rfl rfl (Nat.le_of_ble_eq_true rfl) (x_fit_of (Nat.le_of_ble_eq_true rfl) (by omega) (by omega) (by omega)) ?_
  refine X_st rfl rfl rfl ?_
  refine X_ld rfl rfl rfl rfl ?_
  refine X_ld rfl rfl rfl rfl ?_
  refine X_put f_J5_22 rfl hN ⟨rfl, rfl⟩ ?_
  refine X_ld rfl rfl rfl rfl ?_
  refine X_ld rfl rfl rfl rfl ?_
  refine X_if_ne rfl (fun c => absurd rfl c) (fun _ => ?_)
  refine X_ld rfl rfl rfl rfl ?_
  have hnz : x_set N o (.inl (12, updV (y_dfl tyJ4) 1 (.int 0))) 0 = none := (x_set_ne (by omega)).trans hn0
  refine X_newaK ((x_st i).length + 16) rfl rfl (List.mem_of_getElem? (i := 2) rfl) ba_T (Int32.not_lt.mpr (nI_ge0 (by omega))) (nI_clamp (by omega)) (by omega) (by show 0 + 0 + 0 + 1 ≤ 2; omega) (by show 0 + 0 + 0 + ((x_st i).length + 16) ≤ 682; omega) (x_K_top hnz (fun q hq h64q htop => ?_))
  have hoq : o < q := htop o _ x_set_eq
  refine X_goto rfl ?_
  refine X_put f_J5_15 rfl ((x_set_ne (by omega)).trans x_set_eq) ⟨rfl, rfl⟩ ?_
  refine X_alike (N' := x_set (x_set N q (sbA ((x_st i).length + 16) (fun _ => 0))) o (.inl (12, sbV q 0))) (fun k c' hk => ?_) (fun c' h => ?_) ?_
  · unfold x_set at hk ⊢
    by_cases e : k = o
    · rw [if_pos e] at hk ⊢
      obtain rfl := Option.some.inj hk
      exact ⟨_, rfl, rfl, fun r hr => by cases hr; exact z_f4 rfl rfl rfl rfl⟩
    · rw [if_neg e] at hk ⊢
      by_cases e2 : k = q
      · rw [if_pos e2] at hk ⊢
        obtain rfl := Option.some.inj hk
        exact ⟨_, rfl, ⟨rfl, rfl, rfl⟩, fun j hj => rfl⟩
      · rw [if_neg e2] at hk ⊢
        rw [if_neg e]
        exact ⟨c', hk, x_lk_rfl⟩
  · rw [x_set_ne (by omega), x_set_ne (by omega), hn0] at h
    cases h
  have hsb : sb b N0 o 0 [] (x_set (x_set N q (sbA ((x_st i).length + 16) (fun _ => 0))) o (.inl (12, sbV q 0))) := ⟨⟨fun k hk => (x_set_ne (by omega)).trans ((x_set_ne (by omega)).trans (hk0 k hk)), hb64⟩, q, _, fun _ => 0, ⟨by omega, by omega⟩, x_set_eq, (x_set_ne (by omega)).trans x_set_eq, ⟨Nat.zero_le _, Nat.zero_le _, by omega⟩, fun j hj => absurd hj (Nat.not_lt_zero j), fun j hj => rfl⟩
  refine X_ld rfl rfl rfl rfl ?_
  refine X_ld rfl rfl rfl rfl ?_
  refine X_gcall lg_J5_43 (j_bridge hG hK d hb h0 hsb hi (by show 0 + _ ≤ 300; omega)) x_set_eq rfl rfl rfl rfl (Nat.le_of_ble_eq_true rfl) (Nat.le_of_ble_eq_true rfl) (Nat.le_refl _) (Nat.le_of_ble_eq_true rfl) (by omega) (fun N1 r hq => ?_)
  obtain ⟨rfl, hq⟩ := hq
  refine X_stk (st' := [.ref o]) (rfl) ?_
  refine X_pop rfl rfl ?_
  exact X_vret rfl rfl ⟨rfl, hq⟩ (Nat.le_of_ble_eq_true rfl) (by omega)
theorem j_sbI {G : XE} (hG : x_Kn G) (hK : x_KS G) {N : XH} (d : Nat) {b o : Nat} {N0 : XH} (hb : 0 < b) (hb64 : b ≤ o) (h0 : N0 0 = none) (hk0 : ∀ k, k < b → N k = N0 k) (hN : N o = some (.inl (12, y_dfl tyJ4))) {i : Nat} (hi : i < 26) : x_M G mJ4_init_a7421 (d + 8) 2 682 [.ref o, .ref (4 + i)] (N) (sbQv b N0 o 0 (x_st i)) x_noX := by
  refine X_M hG okJ4_init_a7421 rfl (L := [some (.ref o), some (.ref (4 + i))]) rfl (Nat.le_of_ble_eq_true rfl) (fun ad0 nb0 => ?_)
  refine X_ld rfl rfl rfl rfl ?_
  refine X_ld rfl rfl rfl rfl ?_
  refine X_icallP l_J4_J5_init_a7421 (j_sbI5 hG hK d hb hb64 h0 hk0 hN hi) rfl rfl rfl (Nat.le_of_ble_eq_true rfl) (Nat.le_of_ble_eq_true rfl) (Nat.le_refl _) (Nat.le_of_ble_eq_true rfl) (Nat.le_of_ble_eq_true rfl) (fun N1 r hq => ?_)
  obtain ⟨rfl, hq⟩ := hq
  refine X_stk (st' := []) (rfl) ?_
  exact X_vret rfl rfl ⟨rfl, hq⟩ (Nat.le_of_ble_eq_true rfl) (Nat.le_of_ble_eq_true rfl)
