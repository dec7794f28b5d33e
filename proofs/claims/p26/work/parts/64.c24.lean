/-! ===== the class: checks ===== -/
/-- the texts of the exceptions -/
def x_msg : List (String × Nat × String) := [(RX10, 118, "what is out of range"), (RX10, 302, "the buffer does not have this length"), (RX10, 306, "there is no such column"), (RX10, 309, "there is no such row"), (RX10, 311, "there is no such statement"), (RX10, 162, "there are the holes 0 to 3"), (RX10, 313, "there is no such plan"), (RX10, 318, "a value is out of range"), (RX10, 247, "there is no place for a row")]
/-- they are there -/
def x_KX (G : XE) : Prop := ∀ q ∈ x_msg, ∃ sa, vk_R q.1 q.2.1 q.2.2 sa (x_S G)
def x_QnP (P : Prop) (N : XH) : XH → Option Value → Prop := fun N' r => P ∧ N' = N ∧ r = none
def x_QxP (P : Prop) (N : XH) (C : String) : XH → String → Prop := fun N' E => ¬ P ∧ N' = N ∧ E = C
def s_grt (x : Int32) : Int32 := if x = 0 then 9999 else if x = 1 then 999 else if x = 2 then 1 else 0
theorem m_greatestOf {G : XE} (hG : x_Kn G) {N : XH} (d : Nat) {x : Int32} : x_M G mX10_greatestOf d 0 0 [.int x] N (x_Ret N (.int (s_grt x))) x_noX := by
  refine X_M hG okX10_greatestOf rfl (L := [some (.int x)]) rfl (Nat.le_of_ble_eq_true rfl) (fun ad0 nb0 => ?_)
  refine X_ld rfl rfl rfl rfl ?_
  by_cases h0 : x = 0
  · subst x
    refine X_tabIn 28 rfl (by decide) (by decide) (off := 27) (by decide) (by decide) ?_
    refine X_push (v := .int 9999) rfl (by decide +kernel) ?_
    exact X_iret rfl rfl ⟨rfl, rfl⟩ (Nat.le_of_ble_eq_true rfl) (Nat.le_of_ble_eq_true rfl)
  · by_cases h1 : x = 1
    · subst x
      refine X_tabIn 32 rfl (by decide) (by decide) (off := 31) (by decide) (by decide) ?_
      refine X_push (v := .int 999) rfl (by decide +kernel) ?_
      exact X_iret rfl rfl ⟨rfl, rfl⟩ (Nat.le_of_ble_eq_true rfl) (Nat.le_of_ble_eq_true rfl)
    · by_cases h2 : x = 2
      · subst x
        refine X_tabIn 36 rfl (by decide) (by decide) (off := 35) (by decide) (by decide) ?_
        refine X_push (v := .int 1) rfl (by decide +kernel) ?_
        exact X_iret rfl rfl ⟨rfl, rfl⟩ (Nat.le_of_ble_eq_true rfl) (Nat.le_of_ble_eq_true rfl)
      · have a0 : x.toInt ≠ 0 := fun q => h0 (Int32.toInt_inj.mp (q.trans (by decide)))
        have a1 : x.toInt ≠ 1 := fun q => h1 (Int32.toInt_inj.mp (q.trans (by decide)))
        have a2 : x.toInt ≠ 2 := fun q => h2 (Int32.toInt_inj.mp (q.trans (by decide)))
        refine X_tabOut 38 rfl (by omega) (by decide) ?_
        refine X_push (v := .int 0) rfl (by decide +kernel) ?_
        exact X_iret rfl rfl ⟨rfl, by unfold s_grt; rw [if_neg h0, if_neg h1, if_neg h2]⟩ (Nat.le_of_ble_eq_true rfl) (Nat.le_of_ble_eq_true rfl)
theorem m_checkLength {G : XE} (hG : x_Kn G) (hX : x_KX G) {B : XH} {J bf K tk ts : Nat → Int32} {tl : Int64} {tv : Nat → Int64} {su : Nat → Nat} {D : Nat → Nat → Int32} (d : Nat) {x : Int32} : x_M G mX10_checkLength (d + 6) 1 6 [.ref 64, .int x] (cset B J bf K tk ts tl tv su D) (x_QnP (0 ≤ x ∧ x ≤ J 1) (cset B J bf K tk ts tl tv su D)) (x_QxP (0 ≤ x ∧ x ≤ J 1) (cset B J bf K tk ts tl tv su D) "java/lang/IllegalArgumentException") := by
  refine X_M hG okX10_checkLength rfl (L := [some (.ref 64), some (.int x)]) rfl (Nat.le_of_ble_eq_true rfl) (fun ad0 nb0 => ?_)
  refine X_ld rfl rfl rfl rfl ?_
  refine X_if_lt rfl (fun c1 => ?_) (fun c1 => ?_)
  · exact X_throwSW lt_iae (hX (RX10, 302, "the buffer does not have this length") (List.mem_of_getElem? (i := 1) rfl)) rfl rfl rfl rfl rfl rfl (by show 2 + 3 < d + 6; omega) (Nat.le_of_ble_eq_true rfl) (Nat.le_of_ble_eq_true rfl) (Nat.le_of_ble_eq_true rfl) ⟨fun q => absurd c1 (Int32.not_lt.mpr q.1), rfl, rfl⟩
  · refine X_ld rfl rfl rfl rfl ?_
    refine X_ld rfl rfl rfl rfl ?_
    refine X_get f_X10_36 rfl c_O rfl ?_
    refine X_icmp_le rfl (fun c9 => ?_) (fun c9 => ?_)
    · exact X_vret rfl rfl ⟨⟨Int32.not_lt.mp c1, c9⟩, rfl, rfl⟩ (Nat.le_of_ble_eq_true rfl) (Nat.le_of_ble_eq_true rfl)
    · exact X_throwSW lt_iae (hX (RX10, 302, "the buffer does not have this length") (List.mem_of_getElem? (i := 1) rfl)) rfl rfl rfl rfl rfl rfl (by show 2 + 3 < d + 6; omega) (Nat.le_of_ble_eq_true rfl) (Nat.le_of_ble_eq_true rfl) (Nat.le_of_ble_eq_true rfl) ⟨fun q => c9 q.2, rfl, rfl⟩
theorem m_checkRange {G : XE} (hG : x_Kn G) (hX : x_KX G) {N : XH} (d : Nat) {x y : Int32} : x_M G mX10_checkRange (d + 6) 1 6 [.int x, .int y] (N) (x_QnP (0 ≤ x ∧ x ≤ s_grt y) N) (x_QxP (0 ≤ x ∧ x ≤ s_grt y) N "java/lang/IllegalArgumentException") := by
  refine X_M hG okX10_checkRange rfl (L := [some (.int x), some (.int y)]) rfl (Nat.le_of_ble_eq_true rfl) (fun ad0 nb0 => ?_)
  refine X_ld rfl rfl rfl rfl ?_
  refine X_if_lt rfl (fun c1 => ?_) (fun c1 => ?_)
  · exact X_throwSW lt_iae (hX (RX10, 318, "a value is out of range") (List.mem_of_getElem? (i := 7) rfl)) rfl rfl rfl rfl rfl rfl (by show 2 + 3 < d + 6; omega) (Nat.le_of_ble_eq_true rfl) (Nat.le_of_ble_eq_true rfl) (Nat.le_of_ble_eq_true rfl) ⟨fun q => absurd c1 (Int32.not_lt.mpr q.1), rfl, rfl⟩
  · refine X_ld rfl rfl rfl rfl ?_
    refine X_ld rfl rfl rfl rfl ?_
    refine X_scall l_X10_X10_greatestOf (m_greatestOf hG (d + 5)) rfl rfl rfl (Nat.le_of_ble_eq_true rfl) (Nat.le_of_ble_eq_true rfl) (by omega) (Nat.le_of_ble_eq_true rfl) (Nat.le_of_ble_eq_true rfl) ?_
    refine X_icmp_le rfl (fun c9 => ?_) (fun c9 => ?_)
    · exact X_vret rfl rfl ⟨⟨Int32.not_lt.mp c1, c9⟩, rfl, rfl⟩ (Nat.le_of_ble_eq_true rfl) (Nat.le_of_ble_eq_true rfl)
    · exact X_throwSW lt_iae (hX (RX10, 318, "a value is out of range") (List.mem_of_getElem? (i := 7) rfl)) rfl rfl rfl rfl rfl rfl (by show 2 + 3 < d + 6; omega) (Nat.le_of_ble_eq_true rfl) (Nat.le_of_ble_eq_true rfl) (Nat.le_of_ble_eq_true rfl) ⟨fun q => c9 q.2, rfl, rfl⟩

