/-! ===== toString; a String that was made: length, charAt (wip/p26/gen_f2.py) ===== -/
def sgV (w : Nat) : Nat → Value := fun k => match k with
  | 0 => .ref w
  | 1 => .int 0
  | 2 => .int 0
  | 3 => .int 0
  | _ => .int 0
/-- at t stands a String with the text l; the cells below b are those of N0 -/
def sg (b : Nat) (N0 : XH) (t : Nat) (l : List Int32) (N : XH) : Prop := (∀ k, k < b → N k = N0 k) ∧ ∃ (w : Nat) (f : Nat → Int32), (b ≤ t ∧ b ≤ w) ∧ N t = some (.inl (13, sgV w)) ∧ N w = some (sbA l.length f) ∧ ∀ j, j < l.length → f j = l.getD j 0
/-- letters of the first half -/
def lat (l : List Int32) : Prop := ∀ j, j < l.length → (0 : Int32) ≤ l.getD j 0 ∧ l.getD j 0 ≤ 127
theorem lat_ch {x : Int32} (h0 : 0 ≤ x) (h1 : x ≤ 127) : ((x &&& 255).toUInt32 % 65536).toInt32 = x ∧ narrow .char (.int x) = .int x := by
  obtain ⟨k, hk, rfl⟩ := nI_of (Int32.not_lt.mpr h0)
  have hk2 : k ≤ 127 := (n_le rfl (show (127 : Int32) = nI 127 from rfl) hk (by decide)).mp h1
  have h : ∀ k, k < 128 → ((nI k &&& 255).toUInt32 % 65536).toInt32 = nI k ∧ (nI k).toUInt32.toUInt16.toUInt32.toInt32 = nI k := by decide +kernel
  exact ⟨(h k (by omega)).1, congrArg Value.int (h k (by omega)).2⟩
theorem j_getVal {G : XE} (hG : x_Kn G) {N : XH} (d : Nat) {o v n : Nat} (hN : N o = some (.inl (12, sbV v n))) : x_M G mJ5_getValue_6d5f1 (d) 0 0 [.ref o] (N) (x_Ret N (.ref v)) x_noX := by
  refine X_M hG okJ5_getValue_6d5f1 rfl (L := [some (.ref o)]) rfl (Nat.le_of_ble_eq_true rfl) (fun ad0 nb0 => ?_)
  refine X_ld rfl rfl rfl rfl ?_
  refine X_get f_J5_15 rfl hN rfl ?_
  exact X_aret rfl rfl (Or.inr ⟨_, rfl⟩) (Or.inr ⟨_, rfl⟩) ⟨rfl, rfl⟩ (Nat.le_of_ble_eq_true rfl) (Nat.le_of_ble_eq_true rfl)
theorem j_len5 {G : XE} (hG : x_Kn G) {N : XH} (d : Nat) {o v n : Nat} (hN : N o = some (.inl (12, sbV v n))) : x_M G mJ5_length_8abf5 (d) 0 0 [.ref o] (N) (x_Ret N (.int (nI n))) x_noX := by
  refine X_M hG okJ5_length_8abf5 rfl (L := [some (.ref o)]) rfl (Nat.le_of_ble_eq_true rfl) (fun ad0 nb0 => ?_)
  refine X_ld rfl rfl rfl rfl ?_
  refine X_get f_J5_79 rfl hN rfl ?_
  exact X_iret rfl rfl ⟨rfl, rfl⟩ (Nat.le_of_ble_eq_true rfl) (Nat.le_of_ble_eq_true rfl)
theorem j_len4 {G : XE} (hG : x_Kn G) {N : XH} (d : Nat) {o v n : Nat} (hN : N o = some (.inl (12, sbV v n))) : x_M G mJ4_length_8abf5 (d + 1) 0 0 [.ref o] (N) (x_Ret N (.int (nI n))) x_noX := by
  refine X_M hG okJ4_length_8abf5 rfl (L := [some (.ref o)]) rfl (Nat.le_of_ble_eq_true rfl) (fun ad0 nb0 => ?_)
  refine X_ld rfl rfl rfl rfl ?_
  refine X_sucall ls_J4_343 (j_len5 hG d hN) hN rfl rfl rfl rfl (Nat.le_of_ble_eq_true rfl) (Nat.le_of_ble_eq_true rfl) (Nat.le_refl _) (Nat.le_of_ble_eq_true rfl) (Nat.le_of_ble_eq_true rfl) (fun N1 r hq => ?_)
  obtain ⟨rfl, rfl⟩ := hq
  refine X_stk (st' := [.int (nI n)]) (rfl) ?_
  exact X_iret rfl rfl ⟨rfl, rfl⟩ (Nat.le_of_ble_eq_true rfl) (Nat.le_of_ble_eq_true rfl)
theorem j_chkLen {G : XE} (hG : x_Kn G) {N : XH} (d : Nat) {n : Nat} (hn : n ≤ 4000) : x_M G mJ7_checkLength_df160 (d) 0 0 [.int 0, .int (nI n)] (N) (x_RetV N) x_noX := by
  refine X_M hG okJ7_checkLength_df160 rfl (L := [some (.int 0), some (.int (nI n))]) rfl (Nat.le_of_ble_eq_true rfl) (fun ad0 nb0 => ?_)
  refine X_ld rfl rfl rfl rfl ?_
  refine X_ld rfl rfl rfl rfl ?_
  refine X_icmp_ge rfl (fun _ => ?_) (fun c => absurd (nI_ge0 (by omega)) c)
  exact X_vret rfl rfl ⟨rfl, rfl⟩ (Nat.le_of_ble_eq_true rfl) (Nat.le_of_ble_eq_true rfl)
theorem j_rangeB {G : XE} (hG : x_Kn G) {N : XH} (d : Nat) (h0 : N 0 = none) {v m n : Nat} {f : Nat → Int32} (hV : N v = some (sbA m f)) (hf : ∀ j, j < m → fits .byte (.int (f j)) = true) (hm : n ≤ m ∧ m ≤ 4000) : x_M G mJ7_copyOfRangeByte_39247 (d + 1) 1 n [.ref v, .int 0, .int (nI n)] (N) (x_QCb N n n f) x_noX := by
  refine X_M hG okJ7_copyOfRangeByte_39247 rfl (L := [some (.ref v), some (.int 0), some (.int (nI n)), none, none]) rfl (Nat.le_of_ble_eq_true rfl) (fun ad0 nb0 => ?_)
  refine X_ld rfl rfl rfl rfl ?_
  refine X_ld rfl rfl rfl rfl ?_
  refine X_scallv l_J7_J7_checkLength_df160 (j_chkLen hG d (by omega)) rfl rfl rfl (Nat.le_of_ble_eq_true rfl) (Nat.le_of_ble_eq_true rfl) (by omega) (Nat.le_of_ble_eq_true rfl) (by omega) ?_
  refine X_ld rfl rfl rfl rfl ?_
  refine X_ld rfl rfl rfl rfl ?_
  refine X_bin rfl rfl ?_
  refine X_stk (st' := [.int (nI n)]) (congrArg (fun z => [Value.int z]) (Int32.sub_zero _)) ?_
  refine X_st rfl rfl rfl ?_
  refine X_ld rfl rfl rfl rfl ?_
  refine X_newaK n rfl rfl (List.mem_of_getElem? (i := 2) rfl) ba_T (Int32.not_lt.mpr (nI_ge0 (by omega))) (nI_clamp (by omega)) (by omega) (by show 0 + 0 + 1 ≤ 1; omega) (by show 0 + 0 + n ≤ n; omega) (x_K_top h0 (fun q hq h64 htop => ?_))
  refine X_st rfl rfl rfl ?_
  have hVq : x_set N q (.inr (true, .byte, n, fun _ => defaultValue .byte)) v = some (sbA m f) := (x_set_ne (fun e => by rw [e, hq] at hV; cases hV)).trans hV
  refine X_ld rfl rfl rfl rfl ?_
  refine X_ld rfl rfl rfl rfl ?_
  refine X_ld rfl rfl rfl rfl ?_
  refine X_push (v := .int 0) rfl (by decide +kernel) ?_
  refine X_ld rfl rfl rfl rfl ?_
  refine X_alen rfl hVq ?_
  refine X_ld rfl rfl rfl rfl ?_
  refine X_bin rfl rfl ?_
  refine X_ld rfl rfl rfl rfl ?_
  refine X_stk (st' := [.int (nI n), .int (nI m), .int 0, .ref q, .int 0, .ref v]) (congrArg (fun z => [Value.int (nI n), .int z, .int 0, .ref q, .int 0, .ref v]) (Int32.sub_zero _)) ?_
  refine X_min lmin_J7 rfl (by omega) (Nat.le_of_ble_eq_true rfl) (by omega) (by omega) ?_
  refine X_stk (st' := [.int (nI n), .int 0, .ref q, .int 0, .ref v]) (congrArg (fun z => [Value.int z, .int 0, .ref q, .int 0, .ref v]) ((x_min_comm _ _).trans (y_min_le hm.1 (by omega)))) ?_
  have hz : (0 : Int32).toNatClampNeg = 0 := by decide
  refine X_copyi (f := f) (g := fun _ => 0) (ty := .byte) lcpy_J7 rfl hVq x_set_eq rfl hf (by decide) (by decide) (Int32.not_lt.mpr (nI_ge0 (by omega))) (by rw [hz, nI_clamp (by omega)]; omega) (by rw [hz, nI_clamp (by omega)]; omega) (by omega) (Nat.le_of_ble_eq_true rfl) ?_
  rw [x_set_set, hz, nI_clamp (by omega)]
  refine X_ld rfl rfl rfl rfl ?_
  exact X_aret rfl rfl (Or.inr ⟨_, rfl⟩) (Or.inr ⟨_, rfl⟩) ⟨q, _, ⟨htop, h64, hq⟩, rfl, rfl, fun j hj => by unfold va_cpy; rw [if_pos ⟨Nat.zero_le _, by omega⟩, Nat.sub_zero, Nat.zero_add], va_cpy_fit (fun j hj => hf j (by omega)) (fun j _ => by decide)⟩ (by omega) (by omega)
theorem j_range {G : XE} (hG : x_Kn G) {N : XH} (d : Nat) (h0 : N 0 = none) {v m n : Nat} {f : Nat → Int32} (hV : N v = some (sbA m f)) (hf : ∀ j, j < m → fits .byte (.int (f j)) = true) (hm : n ≤ m ∧ m ≤ 4000) : x_M G mJ7_copyOfRange_39247 (d + 2) 1 n [.ref v, .int 0, .int (nI n)] (N) (x_QCb N n n f) x_noX := by
  refine X_M hG okJ7_copyOfRange_39247 rfl (L := [some (.ref v), some (.int 0), some (.int (nI n))]) rfl (Nat.le_of_ble_eq_true rfl) (fun ad0 nb0 => ?_)
  refine X_ld rfl rfl rfl rfl ?_
  refine X_if_ne rfl (fun c => absurd rfl c) (fun _ => ?_)
  refine X_ld rfl rfl rfl rfl ?_
  refine X_ld rfl rfl rfl rfl ?_
  refine X_alen rfl hV ?_
  refine X_icmp_eq rfl (fun c => ?_) (fun c => ?_)
  · have e : n = m := (n_eq rfl (show Int32.ofNat m = nI m from rfl) (by omega) (by omega)).mp c
    subst e
    refine X_ld rfl rfl rfl rfl ?_
    refine X_clone lcln_J7 rfl hV hf (by omega) (Nat.le_of_ble_eq_true rfl) (by omega) (by omega) (x_K_top h0 (fun q hq h64 htop => ?_))
    refine X_castB lcst_J7 rfl x_set_eq ?_
    exact X_aret rfl rfl (Or.inr ⟨_, rfl⟩) (Or.inr ⟨_, rfl⟩) ⟨q, f, ⟨htop, h64, hq⟩, rfl, rfl, fun _ _ => rfl, hf⟩ (by omega) (by omega)
  · refine X_ld rfl rfl rfl rfl ?_
    refine X_ld rfl rfl rfl rfl ?_
    refine X_ld rfl rfl rfl rfl ?_
    refine X_scallP l_J7_J7_copyOfRangeByte_39247 (j_rangeB hG d h0 hV hf hm) rfl rfl rfl (Nat.le_of_ble_eq_true rfl) (Nat.le_of_ble_eq_true rfl) (by omega) (by omega) (by omega) (fun N1 r hq => ?_)
    obtain ⟨q, g, h1, rfl, rfl, h2⟩ := hq
    exact X_aret rfl rfl (Or.inr ⟨_, rfl⟩) (Or.inr ⟨_, rfl⟩) ⟨q, g, h1, rfl, rfl, h2⟩ (by omega) (by omega)
theorem j_strI2 {G : XE} (hG : x_Kn G) (hK : x_KS G) {N : XH} (d : Nat) {b o t : Nat} {l : List Int32} (hb : 0 < b) (h0 : N 0 = none) (hsb : sb b N o 0 l N) (ht : N t = some (.inl (13, y_dfl tyJ0))) (htb : b ≤ t) : x_M G mJ0_init_db425 (d + 3) 1 l.length [.ref t, .ref o, .null] (N) (fun N2 r => r = none ∧ sg b N t l N2) x_noX := by
  refine X_M hG okJ0_init_db425 rfl (L := [some (.ref t), some (.ref o), some (.null), none, none]) rfl (Nat.le_of_ble_eq_true rfl) (fun ad0 nb0 => ?_)
  obtain ⟨⟨k1, k2⟩, v, m, f, ⟨v1, v2⟩, hN, hV, ⟨m1, m2, m3⟩, hf, hfit⟩ := id hsb
  refine X_ld rfl rfl rfl rfl ?_
  refine X_obj ob_J0 ob_i ob_c rfl (by show 1 ≤ d + _; omega) (by show _ ≤ 100 * (d + _); simp; omega) ?_
  refine X_ld rfl rfl rfl rfl ?_
  refine X_gv lg_J0_552 (j_getVal hG d hN) hN rfl rfl rfl rfl (Nat.le_of_ble_eq_true rfl) (Nat.le_of_ble_eq_true rfl) (by omega) (Nat.le_of_ble_eq_true rfl) (by omega) ?_
  refine X_st rfl rfl rfl ?_
  refine X_ld rfl rfl rfl rfl ?_
  refine X_gv lg_J0_549 (j_len4 hG d hN) hN rfl rfl rfl rfl (Nat.le_of_ble_eq_true rfl) (Nat.le_of_ble_eq_true rfl) (by omega) (Nat.le_of_ble_eq_true rfl) (by omega) ?_
  refine X_st rfl rfl rfl ?_
  refine X_ld rfl rfl rfl rfl ?_
  refine X_gv lg_J0_1047 (j_isLatin1 hG hK d hN) hN rfl rfl rfl rfl (Nat.le_of_ble_eq_true rfl) (Nat.le_of_ble_eq_true rfl) (by omega) (Nat.le_of_ble_eq_true rfl) (by omega) ?_
  refine X_if_eq rfl (fun c => absurd c (by decide)) (fun _ => ?_)
  refine X_ld rfl rfl rfl rfl ?_
  refine X_push (v := .int 0) rfl (by decide +kernel) ?_
  refine X_putF f_J0_15 rfl ht ⟨rfl, rfl⟩ rfl (fun C T n h => by cases h; rfl) ?_
  refine X_ld rfl rfl rfl rfl ?_
  refine X_ld rfl rfl rfl rfl ?_
  refine X_push (v := .int 0) rfl (by decide +kernel) ?_
  refine X_ld rfl rfl rfl rfl ?_
  have htv : v ≠ t := fun e => by rw [e, ht] at hV; cases hV
  refine X_scallP l_J0_J7_copyOfRange_39247 (j_range hG d ((x_set_ne (by omega)).trans h0) ((x_set_ne htv).trans hV) hfit (n := l.length) ⟨m1, by omega⟩) rfl rfl rfl (Nat.le_of_ble_eq_true rfl) (Nat.le_of_ble_eq_true rfl) (by omega) (Nat.le_of_ble_eq_true rfl) (by omega) (fun N1 r hq => ?_)
  obtain ⟨w, g, ⟨w1, w2, w3⟩, rfl, rfl, w4, w5⟩ := hq
  have hwt := w1 _ _ (x_set_eq (N := N) (o := t) (c := .inl (13, updV (y_dfl tyJ0) 1 (.int 0))))
  refine X_stk (st' := [.ref w, .ref t]) (rfl) ?_
  refine X_putF f_J0_9 rfl ((x_set_ne (by omega)).trans x_set_eq) ⟨rfl, rfl⟩ rfl (fun C T n h => by cases h; rfl) ?_
  refine X_goto rfl ?_
  refine X_alike (N' := x_set (x_set N w (sbA l.length g)) t (.inl (13, sgV w))) (fun k c' hk => ?_) (fun c' h => ?_) ?_
  · unfold x_set at hk ⊢
    by_cases e : k = t
    · rw [if_pos e] at hk ⊢
      obtain rfl := Option.some.inj hk
      exact ⟨_, rfl, rfl, fun r hr => by cases hr; exact z_f4 rfl rfl rfl rfl⟩
    · rw [if_neg e] at hk ⊢
      by_cases e2 : k = w
      · rw [if_pos e2] at hk ⊢
        exact ⟨c', hk, x_lk_rfl⟩
      · rw [if_neg e2] at hk ⊢
        rw [if_neg e]
        exact ⟨c', hk, x_lk_rfl⟩
  · rw [x_set_ne (by omega), x_set_ne (by omega), h0] at h
    cases h
  exact X_vret rfl rfl ⟨rfl, fun k hk => (x_set_ne (by omega)).trans (x_set_ne (by omega)), w, g, ⟨htb, by omega⟩, x_set_eq, (x_set_ne (by omega)).trans x_set_eq, fun j hj => (w4 j hj).trans (hf j hj)⟩ (Nat.le_of_ble_eq_true rfl) (by omega)
theorem j_strI1 {G : XE} (hG : x_Kn G) (hK : x_KS G) {N : XH} (d : Nat) {b o t : Nat} {l : List Int32} (hb : 0 < b) (h0 : N 0 = none) (hsb : sb b N o 0 l N) (ht : N t = some (.inl (13, y_dfl tyJ0))) (htb : b ≤ t) : x_M G mJ0_init_81219 (d + 4) 1 l.length [.ref t, .ref o] (N) (fun N2 r => r = none ∧ sg b N t l N2) x_noX := by
  refine X_M hG okJ0_init_81219 rfl (L := [some (.ref t), some (.ref o)]) rfl (Nat.le_of_ble_eq_true rfl) (fun ad0 nb0 => ?_)
  refine X_ld rfl rfl rfl rfl ?_
  refine X_ld rfl rfl rfl rfl ?_
  refine X_push (v := .null) rfl rfl ?_
  refine X_icallP l_J0_J0_init_db425 (j_strI2 hG hK d hb h0 hsb ht htb) rfl rfl rfl (Nat.le_of_ble_eq_true rfl) (Nat.le_of_ble_eq_true rfl) (Nat.le_refl _) (Nat.le_of_ble_eq_true rfl) (by omega) (fun N1 r hq => ?_)
  obtain ⟨rfl, hq⟩ := hq
  refine X_stk (st' := []) (rfl) ?_
  exact X_vret rfl rfl ⟨rfl, hq⟩ (Nat.le_of_ble_eq_true rfl) (by omega)
theorem j_toStr {G : XE} (hG : x_Kn G) (hK : x_KS G) {N : XH} (d : Nat) {b o : Nat} {l : List Int32} (hb : 0 < b) (h0 : N 0 = none) (hsb : sb b N o 0 l N) : x_M G mJ4_toString_0e30d (d + 5) 2 (l.length + 4) [.ref o] (N) (fun N2 r => ∃ t, r = some (.ref t) ∧ sg b N t l N2) x_noX := by
  refine X_M hG okJ4_toString_0e30d rfl (L := [some (.ref o)]) rfl (Nat.le_of_ble_eq_true rfl) (fun ad0 nb0 => ?_)
  obtain ⟨⟨k1, k2⟩, v, m, f, ⟨v1, v2⟩, hN, hV, ⟨m1, m2, m3⟩, hf, hfit⟩ := id hsb
  refine X_newK n_J4_18 rfl (by show 0 + 1 ≤ 2; omega) (by show 0 + 4 ≤ l.length + 4; omega) (x_K_top h0 (fun t ht h64 htop => ?_))
  have hto := htop _ _ hN
  have htv := htop _ _ hV
  have hk : ∀ k, k < b → x_set N t (.inl (13, fun k => defaultValue (tyJ0 k))) k = N k := fun k hk => x_set_ne (by omega)
  have hsb2 : sb b (x_set N t (.inl (13, fun k => defaultValue (tyJ0 k)))) o 0 l (x_set N t (.inl (13, fun k => defaultValue (tyJ0 k)))) := ⟨⟨fun _ _ => rfl, k2⟩, v, m, f, ⟨v1, v2⟩, (x_set_ne (by omega)).trans hN, (x_set_ne (by omega)).trans hV, ⟨m1, m2, m3⟩, hf, hfit⟩
  refine X_dup rfl rfl ?_
  refine X_ld rfl rfl rfl rfl ?_
  refine X_icallP l_J4_J0_init_81219 (j_strI1 hG hK d hb ((x_set_ne (by omega)).trans h0) hsb2 x_set_eq (by omega)) rfl rfl rfl (Nat.le_of_ble_eq_true rfl) (Nat.le_of_ble_eq_true rfl) (Nat.le_refl _) (Nat.le_of_ble_eq_true rfl) (by omega) (fun N1 r hq => ?_)
  obtain ⟨rfl, hq1, hq2⟩ := hq
  refine X_stk (st' := [.ref t]) (rfl) ?_
  exact X_aret rfl rfl (Or.inl ⟨_, rfl⟩) (Or.inr ⟨_, rfl⟩) ⟨t, rfl, fun k hk2 => (hq1 k hk2).trans (hk k hk2), hq2⟩ (Nat.le_of_ble_eq_true rfl) (by omega)
theorem j_scoder {G : XE} (hG : x_Kn G) (hK : x_KS G) {N : XH} (d : Nat) {t w : Nat} (hN : N t = some (.inl (13, sgV w))) : x_M G mJ0_coder_7d493 (d) 0 0 [.ref t] (N) (x_Ret N (.int 0)) x_noX := by
  refine X_M hG okJ0_coder_7d493 rfl (L := [some (.ref t)]) rfl (Nat.le_of_ble_eq_true rfl) (fun ad0 nb0 => ?_)
  refine X_gets (v := .int 1) fs_J0_38 hK.1.1 trivial rfl ?_
  refine X_if_eq rfl (fun c => absurd c (by decide)) (fun _ => ?_)
  refine X_ld rfl rfl rfl rfl ?_
  refine X_get f_J0_15 rfl hN rfl ?_
  refine X_goto rfl ?_
  exact X_zret rfl rfl rfl ⟨rfl, rfl⟩ (Nat.le_of_ble_eq_true rfl) (Nat.le_of_ble_eq_true rfl)
theorem j_slat {G : XE} (hG : x_Kn G) (hK : x_KS G) {N : XH} (d : Nat) {t w : Nat} (hN : N t = some (.inl (13, sgV w))) : x_M G mJ0_isLatin1_aae02 (d) 0 0 [.ref t] (N) (x_Ret N (.int 1)) x_noX := by
  refine X_M hG okJ0_isLatin1_aae02 rfl (L := [some (.ref t)]) rfl (Nat.le_of_ble_eq_true rfl) (fun ad0 nb0 => ?_)
  refine X_gets (v := .int 1) fs_J0_38 hK.1.1 trivial rfl ?_
  refine X_if_eq rfl (fun c => absurd c (by decide)) (fun _ => ?_)
  refine X_ld rfl rfl rfl rfl ?_
  refine X_get f_J0_15 rfl hN rfl ?_
  refine X_if_ne rfl (fun c => absurd rfl c) (fun _ => ?_)
  refine X_push (v := .int 1) rfl (by decide +kernel) ?_
  refine X_goto rfl ?_
  exact X_zret rfl rfl rfl ⟨rfl, rfl⟩ (Nat.le_of_ble_eq_true rfl) (Nat.le_of_ble_eq_true rfl)
theorem j_slen {G : XE} (hG : x_Kn G) (hK : x_KS G) {N : XH} (d : Nat) {b t : Nat} {N0 : XH} {l : List Int32} (hs : sg b N0 t l N) : x_M G mJ0_length_8abf5 (d + 1) 0 0 [.ref t] (N) (x_Ret N (.int (nI l.length))) x_noX := by
  refine X_M hG okJ0_length_8abf5 rfl (L := [some (.ref t)]) rfl (Nat.le_of_ble_eq_true rfl) (fun ad0 nb0 => ?_)
  obtain ⟨k1, w, f, ⟨t1, w1⟩, hN, hV, hf⟩ := id hs
  refine X_ld rfl rfl rfl rfl ?_
  refine X_get f_J0_9 rfl hN rfl ?_
  refine X_alen rfl hV ?_
  refine X_ld rfl rfl rfl rfl ?_
  refine X_vcall hN l_J0_J0_coder_7d493 (j_scoder hG hK d hN) rfl rfl rfl rfl (Nat.le_of_ble_eq_true rfl) (Nat.le_of_ble_eq_true rfl) (Nat.le_refl _) (Nat.le_of_ble_eq_true rfl) (Nat.le_of_ble_eq_true rfl) ?_
  refine X_bin rfl rfl ?_
  refine X_stk (st' := [.int (nI l.length)]) (congrArg (fun z => [Value.int z]) (sb_shr0 _)) ?_
  exact X_iret rfl rfl ⟨rfl, rfl⟩ (Nat.le_of_ble_eq_true rfl) (Nat.le_of_ble_eq_true rfl)
theorem j_l1chr {G : XE} (hG : x_Kn G) (hK : x_KS G) {N : XH} (d : Nat) {w n k : Nat} {f : Nat → Int32} (hV : N w = some (sbA n f)) (hk : k < n) (hn : n ≤ 4000) (hx : (0 : Int32) ≤ f k ∧ f k ≤ 127) : x_M G mJ1_charAt_3b067 (d + 2) 0 0 [.ref w, .int (nI k)] (N) (x_Ret N (.int (f k))) x_noX := by
  refine X_M hG okJ1_charAt_3b067 rfl (L := [some (.ref w), some (.int (nI k))]) rfl (Nat.le_of_ble_eq_true rfl) (fun ad0 nb0 => ?_)
  refine X_ld rfl rfl rfl rfl ?_
  refine X_ld rfl rfl rfl rfl ?_
  refine X_alen rfl hV ?_
  refine X_scallv l_J1_J0_checkIndex_df160 (c_schk hG hK d k n rfl rfl hk (by omega)) rfl rfl rfl (Nat.le_of_ble_eq_true rfl) (Nat.le_of_ble_eq_true rfl) (Nat.le_refl _) (Nat.le_of_ble_eq_true rfl) (Nat.le_of_ble_eq_true rfl) ?_
  refine X_ld rfl rfl rfl rfl ?_
  refine X_ld rfl rfl rfl rfl ?_
  refine X_bald rfl hV (vp_in_nI hk (by omega)) (v := .int (f k)) (by rw [nI_clamp (by omega)]) ?_
  refine X_push (v := .int 255) rfl (by decide +kernel) ?_
  refine X_bin rfl rfl ?_
  refine X_un rfl rfl ?_
  refine X_stk (st' := [.int (f k)]) (congrArg (fun z => [Value.int z]) (lat_ch hx.1 hx.2).1) ?_
  exact X_zret rfl rfl (lat_ch hx.1 hx.2).2 ⟨rfl, rfl⟩ (Nat.le_of_ble_eq_true rfl) (Nat.le_of_ble_eq_true rfl)
theorem j_schar {G : XE} (hG : x_Kn G) (hK : x_KS G) {N : XH} (d : Nat) {b t : Nat} {N0 : XH} {l : List Int32} (hs : sg b N0 t l N) (hl : l.length ≤ 4000) (ha : lat l) {k : Nat} (hk : k < l.length) : x_M G mJ0_charAt_5068e (d + 3) 0 0 [.ref t, .int (nI k)] (N) (x_Ret N (.int (l.getD k 0))) x_noX := by
  refine X_M hG okJ0_charAt_5068e rfl (L := [some (.ref t), some (.int (nI k))]) rfl (Nat.le_of_ble_eq_true rfl) (fun ad0 nb0 => ?_)
  obtain ⟨k1, w, f, ⟨t1, w1⟩, hN, hV, hf⟩ := id hs
  refine X_ld rfl rfl rfl rfl ?_
  refine X_vcall hN l_J0_J0_isLatin1_aae02 (j_slat hG hK d hN) rfl rfl rfl rfl (Nat.le_of_ble_eq_true rfl) (Nat.le_of_ble_eq_true rfl) (by omega) (Nat.le_of_ble_eq_true rfl) (Nat.le_of_ble_eq_true rfl) ?_
  refine X_if_eq rfl (fun c => absurd c (by decide)) (fun _ => ?_)
  refine X_ld rfl rfl rfl rfl ?_
  refine X_get f_J0_9 rfl hN rfl ?_
  refine X_ld rfl rfl rfl rfl ?_
  have hx : (0 : Int32) ≤ f k ∧ f k ≤ 127 := by rw [hf k hk]; exact ha k hk
  rw [← hf k hk]
  refine X_scall l_J0_J1_charAt_3b067 (j_l1chr hG hK d hV hk hl hx) rfl rfl rfl (Nat.le_of_ble_eq_true rfl) (Nat.le_of_ble_eq_true rfl) (Nat.le_refl _) (Nat.le_of_ble_eq_true rfl) (Nat.le_of_ble_eq_true rfl) ?_
  exact X_zret rfl rfl (lat_ch hx.1 hx.2).2 ⟨rfl, rfl⟩ (Nat.le_of_ble_eq_true rfl) (Nat.le_of_ble_eq_true rfl)
