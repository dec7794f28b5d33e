/-! ===== the class: its ring of Data ===== -/
section MAIN
variable {B : XH} {J bf K tk ts : Nat → Int32} {tl : Int64} {tv : Nat → Int64} {su : Nat → Nat} {D : Nat → Nat → Int32} {k : Nat} {x : Int32}
theorem c_O : cset B J bf K tk ts tl tv su D 64 = some (.inl (10, cO J)) := rfl
theorem c_SL : cset B J bf K tk ts tl tv su D 70 = some (.inr (true, .object "PreparedPlans$Data", 10, fun j => .ref (75 + 20 * j))) := rfl
theorem cO_upd (hk : ∀ J : Nat → Int32, cO J k = .int (J k)) : updV (cO J) k (.int x) = cO (upd J k x) := by
  funext j
  unfold updV
  by_cases h : j = k
  · rw [if_pos h, h, hk, updI_eq]
  · rw [if_neg h]
    exact match j, h with
      | 0, _ => rfl
      | 1, h => congrArg Value.int (updI_ne h).symm
      | 2, h => congrArg Value.int (updI_ne h).symm
      | 3, _ => rfl
      | 4, _ => rfl
      | j + 5, h => congrArg Value.int (updI_ne h).symm
theorem w_O (hk : ∀ J : Nat → Int32, cO J k = .int (J k)) : x_set (cset B J bf K tk ts tl tv su D) 64 (.inl (10, updV (cO J) k (.int x))) = cset B (upd J k x) bf K tk ts tl tv su D := by
  funext z
  unfold x_set
  by_cases h : z = 64
  · rw [if_pos h, h, cO_upd hk]
    rfl
  · rw [if_neg h]
    unfold cset
    rw [beq_ne h]
    rfl
end MAIN
def s_n10 (w : Nat) : Nat := (w + 1) % 10
theorem s_n10_lt {w : Nat} : s_n10 w < 10 := Nat.mod_lt _ (by decide)
theorem s_n10_v : ∀ w, w < 10 → nI w + 1 - (nI w + 1) / 10 * 10 = nI (s_n10 w) := by decide +kernel
theorem m_current {G : XE} (hG : x_Kn G) {B : XH} {J bf K tk ts : Nat → Int32} {tl : Int64} {tv : Nat → Int64} {su : Nat → Nat} {D : Nat → Nat → Int32} (d : Nat) (w : Nat) (hw : J 5 = nI w) (hw10 : w < 10)  : x_M G mX10_current d 0 0 [.ref 64] (cset B J bf K tk ts tl tv su D) (x_Ret (cset B J bf K tk ts tl tv su D) (.ref (75 + 20 * w))) x_noX := by
  refine X_M hG okX10_current rfl (L := [some (.ref 64)]) rfl (Nat.le_of_ble_eq_true rfl) (fun ad0 nb0 => ?_)
  refine X_ld rfl rfl rfl rfl ?_
  refine X_get f_X10_26 rfl c_O rfl ?_
  refine X_ld rfl rfl rfl rfl ?_
  refine X_get f_X10_263 rfl c_O rfl ?_
  refine X_aald rfl c_SL rfl (by rw [hw]; exact vp_in_nI hw10 (by omega)) (v := .ref (75 + 20 * w)) (by rw [hw, nI_clamp (by omega)]) ?_
  exact X_aret rfl rfl (Or.inl ⟨_, rfl⟩) (Or.inr ⟨_, rfl⟩) ⟨rfl, rfl⟩ (Nat.le_of_ble_eq_true rfl) (Nat.le_of_ble_eq_true rfl)
theorem m_spareSlot {G : XE} (hG : x_Kn G) {B : XH} {J bf K tk ts : Nat → Int32} {tl : Int64} {tv : Nat → Int64} {su : Nat → Nat} {D : Nat → Nat → Int32} (d : Nat) (w : Nat) (hw : J 5 = nI w) (hw10 : w < 10)  : x_M G mX10_spareSlot d 0 0 [.ref 64] (cset B J bf K tk ts tl tv su D) (x_Ret (cset B J bf K tk ts tl tv su D) (.int (nI (s_n10 w)))) x_noX := by
  refine X_M hG okX10_spareSlot rfl (L := [some (.ref 64)]) rfl (Nat.le_of_ble_eq_true rfl) (fun ad0 nb0 => ?_)
  refine X_ld rfl rfl rfl rfl ?_
  refine X_get f_X10_263 rfl c_O rfl ?_
  refine X_push (v := .int 1) rfl (by decide +kernel) ?_
  refine X_bin rfl rfl ?_
  refine X_push (v := .int 10) rfl (by decide +kernel) ?_
  refine X_irem rfl (by decide) ?_
  exact X_iret rfl rfl ⟨rfl, congrArg (fun q => some (Value.int q)) (by rw [hw]; exact s_n10_v w hw10)⟩ (Nat.le_of_ble_eq_true rfl) (Nat.le_of_ble_eq_true rfl)
theorem m_spareCopy {G : XE} (hG : x_Kn G) {B : XH} {J bf K tk ts : Nat → Int32} {tl : Int64} {tv : Nat → Int64} {su : Nat → Nat} {D : Nat → Nat → Int32} (d : Nat) (w : Nat) (hw : J 5 = nI w) (hw10 : w < 10) (hbl : ∀ q, q < 5 → D w (10 + 13 * q + 9) = 0 ∨ D w (10 + 13 * q + 9) = 1) : x_M G mX10_spareCopy (d + 3) 0 0 [.ref 64] (cset B J bf K tk ts tl tv su D) (x_Ret (cset B J bf K tk ts tl tv (updN su (s_n10 w) (su w)) (updR D (s_n10 w) (D w))) (.ref (75 + 20 * s_n10 w))) x_noX := by
  refine X_M hG okX10_spareCopy rfl (L := [some (.ref 64), none]) rfl (Nat.le_of_ble_eq_true rfl) (fun ad0 nb0 => ?_)
  have h10 : s_n10 w < 10 := s_n10_lt
  have hne : w ≠ s_n10 w := by unfold s_n10; omega
  refine X_ld rfl rfl rfl rfl ?_
  refine X_get f_X10_26 rfl c_O rfl ?_
  refine X_ld rfl rfl rfl rfl ?_
  refine X_vcall c_O l_X10_X10_spareSlot (m_spareSlot hG (d + 2) w hw hw10) rfl rfl rfl rfl (Nat.le_of_ble_eq_true rfl) (Nat.le_of_ble_eq_true rfl) (by omega) (Nat.le_of_ble_eq_true rfl) (Nat.le_of_ble_eq_true rfl) ?_
  refine X_aald rfl c_SL rfl (vp_in_nI h10 (by omega)) (v := .ref (75 + 20 * s_n10 w)) (by rw [nI_clamp (by omega)]) ?_
  refine X_st rfl rfl rfl ?_
  refine X_ld rfl rfl rfl rfl ?_
  refine X_ld rfl rfl rfl rfl ?_
  refine X_vcall c_O l_X10_X10_current (m_current hG (d + 2) w hw hw10) rfl rfl rfl rfl (Nat.le_of_ble_eq_true rfl) (Nat.le_of_ble_eq_true rfl) (by omega) (Nat.le_of_ble_eq_true rfl) (Nat.le_of_ble_eq_true rfl) ?_
  refine X_heap (congrArg (fun D => cset B J bf K tk ts tl tv su D) (updR_self (w := s_n10 w))) ?_
  refine X_vcallv (r_D h10 updR_eq) l_X10_X3_copyFrom (d_copyFrom hG d (s_n10 w) h10 hw10 hne rfl hbl) rfl rfl rfl rfl (Nat.le_of_ble_eq_true rfl) (Nat.le_of_ble_eq_true rfl) (by omega) (Nat.le_of_ble_eq_true rfl) (Nat.le_of_ble_eq_true rfl) ?_
  refine X_ld rfl rfl rfl rfl ?_
  exact X_aret rfl rfl (Or.inl ⟨_, rfl⟩) (Or.inr ⟨_, rfl⟩) ⟨rfl, rfl⟩ (Nat.le_of_ble_eq_true rfl) (Nat.le_of_ble_eq_true rfl)
theorem m_takeSpare {G : XE} (hG : x_Kn G) {B : XH} {J bf K tk ts : Nat → Int32} {tl : Int64} {tv : Nat → Int64} {su : Nat → Nat} {D : Nat → Nat → Int32} (d : Nat) (w : Nat) (hw : J 5 = nI w) (hw10 : w < 10)  : x_M G mX10_takeSpare (d + 1) 0 0 [.ref 64] (cset B J bf K tk ts tl tv su D) (x_RetV (cset B (upd (upd J 5 (nI (s_n10 w))) 6 (x_min (J 6 + 1) 8)) bf K tk ts tl tv su D)) x_noX := by
  refine X_M hG okX10_takeSpare rfl (L := [some (.ref 64)]) rfl (Nat.le_of_ble_eq_true rfl) (fun ad0 nb0 => ?_)
  refine X_ld rfl rfl rfl rfl ?_
  refine X_ld rfl rfl rfl rfl ?_
  refine X_vcall c_O l_X10_X10_spareSlot (m_spareSlot hG d w hw hw10) rfl rfl rfl rfl (Nat.le_of_ble_eq_true rfl) (Nat.le_of_ble_eq_true rfl) (by omega) (Nat.le_of_ble_eq_true rfl) (Nat.le_of_ble_eq_true rfl) ?_
  refine X_put f_X10_263 rfl c_O ⟨rfl, rfl⟩ ?_
  refine X_heap (w_O (k := 5) (fun _ => rfl)) ?_
  refine X_ld rfl rfl rfl rfl ?_
  refine X_ld rfl rfl rfl rfl ?_
  refine X_get f_X10_260 rfl c_O rfl ?_
  refine X_push (v := .int 1) rfl (by decide +kernel) ?_
  refine X_bin rfl rfl ?_
  refine X_push (v := .int 8) rfl (by decide +kernel) ?_
  refine X_min lmin_X10 rfl (by omega) (Nat.le_of_ble_eq_true rfl) (Nat.le_of_ble_eq_true rfl) (Nat.le_of_ble_eq_true rfl) ?_
  refine X_put f_X10_260 rfl c_O ⟨rfl, rfl⟩ ?_
  refine X_heap (w_O (k := 6) (fun _ => rfl)) ?_
  exact X_vret rfl rfl ⟨by rw [updI_ne (show 6 ≠ 5 by decide)], rfl⟩ (Nat.le_of_ble_eq_true rfl) (Nat.le_of_ble_eq_true rfl)
