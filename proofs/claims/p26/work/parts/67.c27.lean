/-! ===== the class: count ===== -/
def s_cntv (e c : Nat → Int32) (x : Int32) : Int32 := if x = 0 then e 0 else if x = 1 then c 1 else if x = 2 then nI (s_sm e) else if x = 3 then c 3 else if x = 4 then e 4 else if x = 5 then e 5 else if x = 6 then e 6 else if x = 7 then e 7 else c 8
def s_to8 (n : Nat) (x : Int32) : Prop := ∃ k, k ≤ n ∧ x = nI k
theorem s_to8_not {n : Nat} (hn : n < 2147483648) {x : Int32} (h : ¬ s_to8 n x) : x.toInt < 0 ∨ (n : Int) < x.toInt := by
  by_cases h1 : x.toInt < 0
  · exact Or.inl h1
  · by_cases h2 : (n : Int) < x.toInt
    · exact Or.inr h2
    · exact absurd ⟨x.toInt.toNat, by omega, Int32.toInt_inj.mp (by rw [nI_toInt (by omega)]; omega)⟩ h
theorem m_count {G : XE} (hG : x_Kn G) (hX : x_KX G) {B : XH} {J bf K tk ts : Nat → Int32} {tl : Int64} {tv : Nat → Int64} {su : Nat → Nat} {D : Nat → Nat → Int32} (d : Nat) (w : Nat) (hw : J 5 = nI w) (hw10 : w < 10) {e : Nat → Int32} (hst : st_at B e (su w)) {x : Int32} : x_M G mX10_count (d + 6) 1 6 [.ref 64, .int x] (cset B J bf K tk ts tl tv su D) (x_QnV (s_to8 8 x) (cset B J bf K tk ts tl tv su D) (.int (s_cntv e (D w) x))) (x_QxP (s_to8 8 x) (cset B J bf K tk ts tl tv su D) "java/lang/IllegalArgumentException") := by
  refine X_M hG okX10_count rfl (L := [some (.ref 64), some (.int x), none]) rfl (Nat.le_of_ble_eq_true rfl) (fun ad0 nb0 => ?_)
  obtain ⟨hso, a1, a2, a3, pp, hsB, -, -, hl3, -⟩ := hst
  obtain ⟨VL3, hN3⟩ := l_at_N (J := J) (bf := bf) (K := K) (tk := tk) (ts := ts) (tl := tl) (tv := tv) (su := su) (D := D) hl3
  refine X_ld rfl rfl rfl rfl ?_
  refine X_vcall c_O l_X10_X10_current (m_current hG (d + 5) w hw hw10) rfl rfl rfl rfl (Nat.le_of_ble_eq_true rfl) (Nat.le_of_ble_eq_true rfl) (by omega) (Nat.le_of_ble_eq_true rfl) (Nat.le_of_ble_eq_true rfl) ?_
  refine X_st rfl rfl rfl ?_
  refine X_ld rfl rfl rfl rfl ?_
  by_cases hP : s_to8 8 x
  · obtain ⟨k, hk, rfl⟩ := hP
    have h9 : k = 0 ∨ k = 1 ∨ k = 2 ∨ k = 3 ∨ k = 4 ∨ k = 5 ∨ k = 6 ∨ k = 7 ∨ k = 8 := by omega
    rcases h9 with rfl | rfl | rfl | rfl | rfl | rfl | rfl | rfl | rfl
    · refine X_tabIn 56 rfl (by decide) (by decide) (off := 50) (by decide) (by decide) ?_
      refine X_ld rfl rfl rfl rfl ?_
      refine X_get f_X10_75 rfl (r_D hw10 rfl) rfl ?_
      refine X_get f_X10_88 rfl (c_B hso hsB) rfl ?_
      exact X_iret rfl rfl ⟨⟨0, by omega, rfl⟩, rfl, rfl⟩ (Nat.le_of_ble_eq_true rfl) (Nat.le_of_ble_eq_true rfl)
    · refine X_tabIn 64 rfl (by decide) (by decide) (off := 58) (by decide) (by decide) ?_
      refine X_ld rfl rfl rfl rfl ?_
      refine X_get f_X10_91 rfl (r_D hw10 rfl) rfl ?_
      exact X_iret rfl rfl ⟨⟨1, by omega, rfl⟩, rfl, rfl⟩ (Nat.le_of_ble_eq_true rfl) (Nat.le_of_ble_eq_true rfl)
    · refine X_tabIn 69 rfl (by decide) (by decide) (off := 63) (by decide) (by decide) ?_
      refine X_ld rfl rfl rfl rfl ?_
      refine X_get f_X10_75 rfl (r_D hw10 rfl) rfl ?_
      refine X_get f_X10_79 rfl (c_B hso hsB) rfl ?_
      refine X_vcall (o := a3) hN3 l_X10_Jx4a65c_size_8abf5 (j_size hG (d + 5) (l_at_li hl3)) rfl rfl rfl rfl (Nat.le_of_ble_eq_true rfl) (Nat.le_of_ble_eq_true rfl) (by omega) (Nat.le_of_ble_eq_true rfl) (Nat.le_of_ble_eq_true rfl) ?_
      exact X_iret rfl rfl ⟨⟨2, by omega, rfl⟩, rfl, rfl⟩ (Nat.le_of_ble_eq_true rfl) (Nat.le_of_ble_eq_true rfl)
    · refine X_tabIn 80 rfl (by decide) (by decide) (off := 74) (by decide) (by decide) ?_
      refine X_ld rfl rfl rfl rfl ?_
      refine X_get f_X10_94 rfl (r_D hw10 rfl) rfl ?_
      exact X_iret rfl rfl ⟨⟨3, by omega, rfl⟩, rfl, rfl⟩ (Nat.le_of_ble_eq_true rfl) (Nat.le_of_ble_eq_true rfl)
    · refine X_tabIn 85 rfl (by decide) (by decide) (off := 79) (by decide) (by decide) ?_
      refine X_ld rfl rfl rfl rfl ?_
      refine X_get f_X10_75 rfl (r_D hw10 rfl) rfl ?_
      refine X_get f_X10_97 rfl (c_B hso hsB) rfl ?_
      exact X_iret rfl rfl ⟨⟨4, by omega, rfl⟩, rfl, rfl⟩ (Nat.le_of_ble_eq_true rfl) (Nat.le_of_ble_eq_true rfl)
    · refine X_tabIn 93 rfl (by decide) (by decide) (off := 87) (by decide) (by decide) ?_
      refine X_ld rfl rfl rfl rfl ?_
      refine X_get f_X10_75 rfl (r_D hw10 rfl) rfl ?_
      refine X_get f_X10_100 rfl (c_B hso hsB) rfl ?_
      exact X_iret rfl rfl ⟨⟨5, by omega, rfl⟩, rfl, rfl⟩ (Nat.le_of_ble_eq_true rfl) (Nat.le_of_ble_eq_true rfl)
    · refine X_tabIn 101 rfl (by decide) (by decide) (off := 95) (by decide) (by decide) ?_
      refine X_ld rfl rfl rfl rfl ?_
      refine X_get f_X10_75 rfl (r_D hw10 rfl) rfl ?_
      refine X_get f_X10_103 rfl (c_B hso hsB) rfl ?_
      exact X_iret rfl rfl ⟨⟨6, by omega, rfl⟩, rfl, rfl⟩ (Nat.le_of_ble_eq_true rfl) (Nat.le_of_ble_eq_true rfl)
    · refine X_tabIn 109 rfl (by decide) (by decide) (off := 103) (by decide) (by decide) ?_
      refine X_ld rfl rfl rfl rfl ?_
      refine X_get f_X10_75 rfl (r_D hw10 rfl) rfl ?_
      refine X_get f_X10_106 rfl (c_B hso hsB) rfl ?_
      exact X_iret rfl rfl ⟨⟨7, by omega, rfl⟩, rfl, rfl⟩ (Nat.le_of_ble_eq_true rfl) (Nat.le_of_ble_eq_true rfl)
    · refine X_tabIn 117 rfl (by decide) (by decide) (off := 111) (by decide) (by decide) ?_
      refine X_ld rfl rfl rfl rfl ?_
      refine X_get f_X10_109 rfl (r_D hw10 rfl) rfl ?_
      refine X_get f_X10_113 rfl (r_S hw10 rfl) rfl ?_
      exact X_iret rfl rfl ⟨⟨8, by omega, rfl⟩, rfl, rfl⟩ (Nat.le_of_ble_eq_true rfl) (Nat.le_of_ble_eq_true rfl)
  · refine X_tabOut 125 rfl (s_to8_not (n := 8) (by decide) hP) (by decide) ?_
    exact X_throwS lt_iae (hX (RX10, 118, "what is out of range") (List.mem_of_getElem? (i := 0) rfl)) rfl rfl rfl rfl rfl rfl (by show 2 + 3 < d + 6; omega) (Nat.le_of_ble_eq_true rfl) (Nat.le_of_ble_eq_true rfl) (Nat.le_of_ble_eq_true rfl) ⟨hP, rfl, rfl⟩

