/-! ===== the law's loop (wip/whole/gen_d09.py) ===== -/
theorem L_I.up {n t b : Nat} {xs : Nat → Int32} {N : XH} (h : L_I n xs t b N) : L_I n xs (t + 1) b N := by
  obtain ⟨B, ov, I, T, S, rd, tx, gv, P, J, bf, K, tk, ts, tl, tv, su, D, w, v, u, rfl, hB, hI, hJ, hr, hg⟩ := h
  exact ⟨B, ov, I, T, S, rd, tx, gv, P, J, bf, K, tk, ts, tl, tv, su, D, w, v, u, rfl, hB, hI, hJ, hr, hg.mono y_le_rfl (Nat.le_succ t)⟩
theorem L_I56 {n t b : Nat} {xs : Nat → Int32} {N : XH} (h : L_I n xs t b N) : N 56 = some (.inr (false, .int, n, fun j => .int (xs j))) := by
  obtain ⟨B, ov, I, T, S, rd, tx, gv, P, J, bf, K, tk, ts, tl, tv, su, D, w, v, u, rfl, hB, hI, hJ, hr, hg⟩ := h
  exact L_56c hB
/-- 7 less than a length, against a place -/
theorem L_len {n i : Nat} (hn : n ≤ 3584) (hi : i ≤ 3584) : (Int32.ofNat n - 7 < nI i) ↔ n < i + 7 := by
  have e1 : (Int32.ofNat n).toInt = n := Int32.toInt_ofNat_of_lt (by omega)
  have e2 : (nI i).toInt = i := Int32.toInt_ofNat_of_lt (by omega)
  have e3 : (Int32.ofNat n - 7).toInt = (n : Int) - 7 := by
    rw [Int32.toInt_sub, e1, show (7 : Int32).toInt = 7 from rfl]
    exact Int.bmod_eq_of_le (by omega) (by omega)
  rw [Int32.lt_iff_toInt_lt, e3, e2]
  omega
theorem X_case {G : XE} {Z : XZ} {N : XH} {cells slots : Nat} {L : List (Option Value)} {x : Int32} {k tgt : Nat} {off : Int} (hx : x = nI k) (hk : k ≤ 22) (ho : (#[108, 181, 237, 250, 306, 374, 442, 498, 566, 634, 702, 758, 826, 930, 1048, 1152, 1255, 1359, 1463, 1519, 1610, 1623, 1636] : Array Int)[k]? = some off) (ht : (40 : Int) + off = (tgt : Int)) (kk : x_W G mL_law Z N cells slots tgt L []) : x_W G mL_law Z N cells slots 40 L [.int x] := by
  have e : x.toInt = k := by rw [hx]; exact Int32.toInt_ofNat_of_lt (by omega)
  refine X_tabIn tgt aL_40 (by rw [e]; omega) (by rw [e]; omega) (by rw [e]; exact ho) ht kk
theorem X_casd {G : XE} {Z : XZ} {N : XH} {cells slots : Nat} {L : List (Option Value)} {x : Int32} {k : Nat} (hx : x = nI k) (h1 : 22 < k) (hk : k < 32) (kk : x_W G mL_law Z N cells slots 1690 L []) : x_W G mL_law Z N cells slots 40 L [.int x] := by
  have e : x.toInt = k := by rw [hx]; exact Int32.toInt_ofNat_of_lt (by omega)
  exact X_tabOut 1690 aL_40 (Or.inr (by rw [e]; omega)) rfl kk
theorem law_sw {G : XE} (hG : x_Kn G) (hX : x_KX G) (hN : x_KN G) (hK : x_KS G) (hM : x_KM G) {ad0 : Nat → Nat} {nb0 : Nat} {n t b : Nat} {xs : Nat → Int32} {N : XH} {cells slots : Nat} (hI : L_I n xs t b N) (h7 : 7 * t + 7 ≤ n) (h36 : n ≤ 3584) (hc : cells + 12 * b ≤ 300 + 975 * t) (hs : slots + 292 * b ≤ 60000 + 5850 * t) (KK : L_K G ad0 nb0 n xs t) {x : Int32} : ∀ k, k < 32 → x = nI k → x_W G mL_law (L_Z G ad0 nb0) N cells slots 40 (L_l t) [.int x]
  | 0, _, hx => X_case hx (by omega) (tgt := 148) (off := 108) rfl rfl (law_0 hG hX hN hK hM hI h7 h36 hc hs KK)
  | 1, _, hx => X_case hx (by omega) (tgt := 221) (off := 181) rfl rfl (law_1 hG hX hN hK hM hI h7 h36 hc hs KK)
  | 2, _, hx => X_case hx (by omega) (tgt := 277) (off := 237) rfl rfl (law_2 hG hX hN hK hM hI h7 h36 hc hs KK)
  | 3, _, hx => X_case hx (by omega) (tgt := 290) (off := 250) rfl rfl (law_3 hG hX hN hK hM hI h7 h36 hc hs KK)
  | 4, _, hx => X_case hx (by omega) (tgt := 346) (off := 306) rfl rfl (law_4 hG hX hN hK hM hI h7 h36 hc hs KK)
  | 5, _, hx => X_case hx (by omega) (tgt := 414) (off := 374) rfl rfl (law_5 hG hX hN hK hM hI h7 h36 hc hs KK)
  | 6, _, hx => X_case hx (by omega) (tgt := 482) (off := 442) rfl rfl (law_6 hG hX hN hK hM hI h7 h36 hc hs KK)
  | 7, _, hx => X_case hx (by omega) (tgt := 538) (off := 498) rfl rfl (law_7 hG hX hN hK hM hI h7 h36 hc hs KK)
  | 8, _, hx => X_case hx (by omega) (tgt := 606) (off := 566) rfl rfl (law_8 hG hX hN hK hM hI h7 h36 hc hs KK)
  | 9, _, hx => X_case hx (by omega) (tgt := 674) (off := 634) rfl rfl (law_9 hG hX hN hK hM hI h7 h36 hc hs KK)
  | 10, _, hx => X_case hx (by omega) (tgt := 742) (off := 702) rfl rfl (law_10 hG hX hN hK hM hI h7 h36 hc hs KK)
  | 11, _, hx => X_case hx (by omega) (tgt := 798) (off := 758) rfl rfl (law_11 hG hX hN hK hM hI h7 h36 hc hs KK)
  | 12, _, hx => X_case hx (by omega) (tgt := 866) (off := 826) rfl rfl (law_12 hG hX hN hK hM hI h7 h36 hc hs KK)
  | 13, _, hx => X_case hx (by omega) (tgt := 970) (off := 930) rfl rfl (law_13 hG hX hN hK hM hI h7 h36 hc hs KK)
  | 14, _, hx => X_case hx (by omega) (tgt := 1088) (off := 1048) rfl rfl (law_14 hG hX hN hK hM hI h7 h36 hc hs KK)
  | 15, _, hx => X_case hx (by omega) (tgt := 1192) (off := 1152) rfl rfl (law_15 hG hX hN hK hM hI h7 h36 hc hs KK)
  | 16, _, hx => X_case hx (by omega) (tgt := 1295) (off := 1255) rfl rfl (law_16 hG hX hN hK hM hI h7 h36 hc hs KK)
  | 17, _, hx => X_case hx (by omega) (tgt := 1399) (off := 1359) rfl rfl (law_17 hG hX hN hK hM hI h7 h36 hc hs KK)
  | 18, _, hx => X_case hx (by omega) (tgt := 1503) (off := 1463) rfl rfl (law_18 hG hX hN hK hM hI h7 h36 hc hs KK)
  | 19, _, hx => X_case hx (by omega) (tgt := 1559) (off := 1519) rfl rfl (law_19 hG hX hN hK hM hI h7 h36 hc hs KK)
  | 20, _, hx => X_case hx (by omega) (tgt := 1650) (off := 1610) rfl rfl (law_20 hG hX hN hK hM hI h7 h36 hc hs KK)
  | 21, _, hx => X_case hx (by omega) (tgt := 1663) (off := 1623) rfl rfl (law_21 hG hX hN hK hM hI h7 h36 hc hs KK)
  | 22, _, hx => X_case hx (by omega) (tgt := 1676) (off := 1636) rfl rfl (law_22 hG hX hN hK hM hI h7 h36 hc hs KK)
  | k + 23, h, hx => X_casd hx (by omega) h (KK N b cells slots hI.up (by omega) (by omega))
theorem law_loop {G : XE} (hG : x_Kn G) (hX : x_KX G) (hN : x_KN G) (hK : x_KS G) (hM : x_KM G) {ad0 : Nat → Nat} {nb0 : Nat} {n : Nat} {xs : Nat → Int32} (h36 : n ≤ 3584) : ∀ (f t b : Nat) (N : XH) (cells slots : Nat), t + f = 513 → t ≤ 512 → L_I n xs t b N → cells + 12 * b ≤ 300 + 975 * t → slots + 292 * b ≤ 60000 + 5850 * t → x_W G mL_law (L_Z G ad0 nb0) N cells slots 23 (L_l t) [] := by
  intro f
  induction f with
  | zero => intro t b N cells slots e ht hI hc hs; exact absurd ht (by omega)
  | succ f ih =>
    intro t b N cells slots e ht hI hc hs
    refine X_ld aL_23 rfl rfl rfl ?_
    refine X_ld aL_25 rfl rfl rfl ?_
    refine X_alen aL_26 (L_I56 hI) ?_
    refine X_push (v := .int 7) aL_27 (by decide +kernel) ?_
    refine X_bin aL_29 rfl ?_
    refine X_icmp_gt aL_30 (fun q => ?_) (fun q => ?_)
    · refine X_push (v := .int 1) aL_1696 (by decide +kernel) ?_
      exact X_Lret (pc := 1697) (by decide +kernel) (by omega) (by omega)
    · have h7 : 7 * t + 7 ≤ n := Nat.not_lt.mp fun h => q ((L_len h36 (by omega)).mpr h)
      refine X_ld aL_33 rfl rfl rfl ?_
      refine X_ld aL_34 rfl rfl rfl ?_
      refine X_iald aL_36 (L_I56 hI) (vp_in_nI (by omega) (by omega)) (v := .int (xs (7 * t))) (by rw [nI_clamp (by omega)]) ?_
      refine X_push (v := .int 31) aL_37 (by decide +kernel) ?_
      refine X_bin aL_39 rfl ?_
      obtain ⟨k, hk, hx⟩ := y_dec31 (xs (7 * t))
      refine law_sw hG hX hN hK hM hI h7 h36 hc hs (fun N' b' cells' slots' hI' hc' hs' => ?_) k hk hx
      refine X_iinc aL_1690 rfl rfl ?_
      refine X_goto aL_1693 ?_
      refine X_loc (L' := L_l (t + 1)) ⟨rfl, rfl, rfl, rfl, congrArg Value.int ?_, trivial⟩ ?_
      · show nI (7 * (t + 1)) = nI (7 * t) + Int32.ofInt 7
        rw [show Int32.ofInt 7 = nI 7 from rfl, nI_add]
        exact congrArg nI (by omega)
      · exact ih (t + 1) b' N' cells' slots' (by omega) (by omega) hI' hc' hs'
