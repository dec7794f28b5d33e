/-! ===== the class: append, errorOffset ===== -/
/-- the buffer holds the text's bytes, with a sign -/
def s_rtx (tx bf : Nat → Int32) (b : Nat) : Prop := ∀ j, j < b → ∃ m, m < 256 ∧ tx j = nI m ∧ bf j = (nI m).toInt8.toInt32
theorem y_nar8 (z : Int32) : narrow .byte (.int z.toInt8.toInt32) = .int z.toInt8.toInt32 := by
  show Value.int (z.toInt8.toInt32).toInt8.toInt32 = _
  rw [Int8.toInt8_toInt32]
def s_by (v s : Int32) : Int32 := (v >>> (s &&& 31)).toInt8.toInt32
def s_w4 (bf : Nat → Int32) (b : Nat) (v : Int32) : Nat → Int32 := upd (upd (upd (upd bf b (s_by v 24)) (b + 1) (s_by v 16)) (b + 2) (s_by v 8)) (b + 3) (s_by v 0)
section BF
variable {B : XH} {J bf K tk ts : Nat → Int32} {tl : Int64} {tv : Nat → Int64} {su : Nat → Nat} {D : Nat → Nat → Int32} {k : Nat} {x : Int32}
theorem c_BF : cset B J bf K tk ts tl tv su D 65 = some (.inr (true, .byte, 800, fun j => .int (bf j))) := rfl
theorem w_BF : x_set (cset B J bf K tk ts tl tv su D) 65 (.inr (true, .byte, 800, updV (fun j => .int (bf j)) k (.int x))) = cset B J (upd bf k x) K tk ts tl tv su D := by
  rw [updV_int]
  funext z
  unfold x_set
  by_cases h : z = 65
  · rw [if_pos h, h]
    rfl
  · rw [if_neg h]
    unfold cset
    rw [beq_ne h]
    rfl
end BF
theorem m_appendWord {G : XE} (hG : x_Kn G) {B : XH} {J bf K tk ts : Nat → Int32} {tl : Int64} {tv : Nat → Int64} {su : Nat → Nat} {D : Nat → Nat → Int32} (d : Nat) (b : Nat) (hb : J 1 = nI b) (hb8 : b + 4 ≤ 800) {v : Int32} : x_M G mX10_appendWord d 0 0 [.ref 64, .int v] (cset B J bf K tk ts tl tv su D) (x_RetV (cset B (upd J 1 (nI (b + 4))) (s_w4 bf b v) K tk ts tl tv su D)) x_noX := by
  refine X_M hG okX10_appendWord rfl (L := [some (.ref 64), some (.int v), none]) rfl (Nat.le_of_ble_eq_true rfl) (fun ad0 nb0 => ?_)
  refine X_push (v := .int 24) rfl (by decide +kernel) ?_
  refine X_st rfl rfl rfl ?_
  refine X_loc (L' := [some (.ref 64), some (.int v), some (.int 24)]) ⟨rfl, rfl, rfl, trivial⟩ ?_
  refine X_ld rfl rfl rfl rfl ?_
  refine X_if_lt rfl (fun c9 => absurd c9 (by decide)) (fun c9 => ?_)
  clear c9
  refine X_ld rfl rfl rfl rfl ?_
  refine X_get f_X10_36 rfl c_O (v := .int (nI b)) (congrArg Value.int hb) ?_
  refine X_push (v := .int 800) rfl (by decide +kernel) ?_
  refine X_icmp_ge rfl (fun c9 => absurd ((n_le (show (800 : Int32) = nI 800 from rfl) rfl (by omega) (by omega)).mp c9) (by omega)) (fun c9 => ?_)
  clear c9
  refine X_ld rfl rfl rfl rfl ?_
  refine X_get f_X10_9 rfl c_O rfl ?_
  refine X_ld rfl rfl rfl rfl ?_
  refine X_get f_X10_36 rfl c_O (v := .int (nI b)) (congrArg Value.int hb) ?_
  refine X_ld rfl rfl rfl rfl ?_
  refine X_ld rfl rfl rfl rfl ?_
  refine X_bin rfl rfl ?_
  refine X_un rfl rfl ?_
  refine X_bast rfl c_BF (by exact vp_in_nI (by omega) (by omega)) (y_nar8 _) ?_
  refine X_heap (N' := cset B J (upd bf (b) (s_by v 24)) K tk ts tl tv su D) (by rw [nI_clamp (by omega)]; exact w_BF) ?_
  refine X_ld rfl rfl rfl rfl ?_
  refine X_dup rfl rfl ?_
  refine X_get f_X10_36 rfl c_O (v := .int (nI b)) (congrArg Value.int hb) ?_
  refine X_push (v := .int 1) rfl (by decide +kernel) ?_
  refine X_bin rfl rfl ?_
  refine X_put f_X10_36 rfl c_O ⟨rfl, rfl⟩ ?_
  refine X_heap (N' := cset B (upd J 1 (nI (b + 1))) (upd bf (b) (s_by v 24)) K tk ts tl tv su D) (by rw [w_O (k := 1) (fun _ => rfl), show nI b + 1 = nI (b + 1) from m_add (b := 1) rfl rfl]) ?_
  refine X_iinc rfl rfl rfl ?_
  refine X_goto rfl ?_
  refine X_loc (L' := [some (.ref 64), some (.int v), some (.int 16)]) ⟨rfl, rfl, rfl, trivial⟩ ?_
  refine X_ld rfl rfl rfl rfl ?_
  refine X_if_lt rfl (fun c9 => absurd c9 (by decide)) (fun c9 => ?_)
  clear c9
  refine X_ld rfl rfl rfl rfl ?_
  refine X_get f_X10_36 rfl c_O (v := .int (nI (b + 1))) (congrArg Value.int updI_eq) ?_
  refine X_push (v := .int 800) rfl (by decide +kernel) ?_
  refine X_icmp_ge rfl (fun c9 => absurd ((n_le (show (800 : Int32) = nI 800 from rfl) rfl (by omega) (by omega)).mp c9) (by omega)) (fun c9 => ?_)
  clear c9
  refine X_ld rfl rfl rfl rfl ?_
  refine X_get f_X10_9 rfl c_O rfl ?_
  refine X_ld rfl rfl rfl rfl ?_
  refine X_get f_X10_36 rfl c_O (v := .int (nI (b + 1))) (congrArg Value.int updI_eq) ?_
  refine X_ld rfl rfl rfl rfl ?_
  refine X_ld rfl rfl rfl rfl ?_
  refine X_bin rfl rfl ?_
  refine X_un rfl rfl ?_
  refine X_bast rfl c_BF (by exact vp_in_nI (by omega) (by omega)) (y_nar8 _) ?_
  refine X_heap (N' := cset B (upd J 1 (nI (b + 1))) (upd (upd bf (b) (s_by v 24)) (b + 1) (s_by v 16)) K tk ts tl tv su D) (by rw [nI_clamp (by omega)]; exact w_BF) ?_
  refine X_ld rfl rfl rfl rfl ?_
  refine X_dup rfl rfl ?_
  refine X_get f_X10_36 rfl c_O (v := .int (nI (b + 1))) (congrArg Value.int updI_eq) ?_
  refine X_push (v := .int 1) rfl (by decide +kernel) ?_
  refine X_bin rfl rfl ?_
  refine X_put f_X10_36 rfl c_O ⟨rfl, rfl⟩ ?_
  refine X_heap (N' := cset B (upd J 1 (nI (b + 2))) (upd (upd bf (b) (s_by v 24)) (b + 1) (s_by v 16)) K tk ts tl tv su D) (by rw [w_O (k := 1) (fun _ => rfl), show nI (b + 1) + 1 = nI (b + 2) from m_add (b := 1) rfl rfl, upd_upd]) ?_
  refine X_iinc rfl rfl rfl ?_
  refine X_goto rfl ?_
  refine X_loc (L' := [some (.ref 64), some (.int v), some (.int 8)]) ⟨rfl, rfl, rfl, trivial⟩ ?_
  refine X_ld rfl rfl rfl rfl ?_
  refine X_if_lt rfl (fun c9 => absurd c9 (by decide)) (fun c9 => ?_)
  clear c9
  refine X_ld rfl rfl rfl rfl ?_
  refine X_get f_X10_36 rfl c_O (v := .int (nI (b + 2))) (congrArg Value.int updI_eq) ?_
  refine X_push (v := .int 800) rfl (by decide +kernel) ?_
  refine X_icmp_ge rfl (fun c9 => absurd ((n_le (show (800 : Int32) = nI 800 from rfl) rfl (by omega) (by omega)).mp c9) (by omega)) (fun c9 => ?_)
  clear c9
  refine X_ld rfl rfl rfl rfl ?_
  refine X_get f_X10_9 rfl c_O rfl ?_
  refine X_ld rfl rfl rfl rfl ?_
  refine X_get f_X10_36 rfl c_O (v := .int (nI (b + 2))) (congrArg Value.int updI_eq) ?_
  refine X_ld rfl rfl rfl rfl ?_
  refine X_ld rfl rfl rfl rfl ?_
  refine X_bin rfl rfl ?_
  refine X_un rfl rfl ?_
  refine X_bast rfl c_BF (by exact vp_in_nI (by omega) (by omega)) (y_nar8 _) ?_
  refine X_heap (N' := cset B (upd J 1 (nI (b + 2))) (upd (upd (upd bf (b) (s_by v 24)) (b + 1) (s_by v 16)) (b + 2) (s_by v 8)) K tk ts tl tv su D) (by rw [nI_clamp (by omega)]; exact w_BF) ?_
  refine X_ld rfl rfl rfl rfl ?_
  refine X_dup rfl rfl ?_
  refine X_get f_X10_36 rfl c_O (v := .int (nI (b + 2))) (congrArg Value.int updI_eq) ?_
  refine X_push (v := .int 1) rfl (by decide +kernel) ?_
  refine X_bin rfl rfl ?_
  refine X_put f_X10_36 rfl c_O ⟨rfl, rfl⟩ ?_
  refine X_heap (N' := cset B (upd J 1 (nI (b + 3))) (upd (upd (upd bf (b) (s_by v 24)) (b + 1) (s_by v 16)) (b + 2) (s_by v 8)) K tk ts tl tv su D) (by rw [w_O (k := 1) (fun _ => rfl), show nI (b + 2) + 1 = nI (b + 3) from m_add (b := 1) rfl rfl, upd_upd]) ?_
  refine X_iinc rfl rfl rfl ?_
  refine X_goto rfl ?_
  refine X_loc (L' := [some (.ref 64), some (.int v), some (.int 0)]) ⟨rfl, rfl, rfl, trivial⟩ ?_
  refine X_ld rfl rfl rfl rfl ?_
  refine X_if_lt rfl (fun c9 => absurd c9 (by decide)) (fun c9 => ?_)
  clear c9
  refine X_ld rfl rfl rfl rfl ?_
  refine X_get f_X10_36 rfl c_O (v := .int (nI (b + 3))) (congrArg Value.int updI_eq) ?_
  refine X_push (v := .int 800) rfl (by decide +kernel) ?_
  refine X_icmp_ge rfl (fun c9 => absurd ((n_le (show (800 : Int32) = nI 800 from rfl) rfl (by omega) (by omega)).mp c9) (by omega)) (fun c9 => ?_)
  clear c9
  refine X_ld rfl rfl rfl rfl ?_
  refine X_get f_X10_9 rfl c_O rfl ?_
  refine X_ld rfl rfl rfl rfl ?_
  refine X_get f_X10_36 rfl c_O (v := .int (nI (b + 3))) (congrArg Value.int updI_eq) ?_
  refine X_ld rfl rfl rfl rfl ?_
  refine X_ld rfl rfl rfl rfl ?_
  refine X_bin rfl rfl ?_
  refine X_un rfl rfl ?_
  refine X_bast rfl c_BF (by exact vp_in_nI (by omega) (by omega)) (y_nar8 _) ?_
  refine X_heap (N' := cset B (upd J 1 (nI (b + 3))) (upd (upd (upd (upd bf (b) (s_by v 24)) (b + 1) (s_by v 16)) (b + 2) (s_by v 8)) (b + 3) (s_by v 0)) K tk ts tl tv su D) (by rw [nI_clamp (by omega)]; exact w_BF) ?_
  refine X_ld rfl rfl rfl rfl ?_
  refine X_dup rfl rfl ?_
  refine X_get f_X10_36 rfl c_O (v := .int (nI (b + 3))) (congrArg Value.int updI_eq) ?_
  refine X_push (v := .int 1) rfl (by decide +kernel) ?_
  refine X_bin rfl rfl ?_
  refine X_put f_X10_36 rfl c_O ⟨rfl, rfl⟩ ?_
  refine X_heap (N' := cset B (upd J 1 (nI (b + 4))) (upd (upd (upd (upd bf (b) (s_by v 24)) (b + 1) (s_by v 16)) (b + 2) (s_by v 8)) (b + 3) (s_by v 0)) K tk ts tl tv su D) (by rw [w_O (k := 1) (fun _ => rfl), show nI (b + 3) + 1 = nI (b + 4) from m_add (b := 1) rfl rfl, upd_upd]) ?_
  refine X_iinc rfl rfl rfl ?_
  refine X_goto rfl ?_
  refine X_loc (L' := [some (.ref 64), some (.int v), some (.int (-8))]) ⟨rfl, rfl, rfl, trivial⟩ ?_
  refine X_ld rfl rfl rfl rfl ?_
  refine X_if_lt rfl (fun c9 => ?_) (fun c9 => absurd (by decide) c9)
  exact X_vret rfl rfl ⟨rfl, rfl⟩ (Nat.le_of_ble_eq_true rfl) (Nat.le_of_ble_eq_true rfl)
def s_abx (bf : Nat → Int32) (b : Nat) (v0 v1 v2 v3 v4 : Int32) : Nat → Int32 := s_w4 (s_w4 (s_w4 (s_w4 (s_w4 bf b v0) (b + 4) v1) (b + 8) v2) (b + 12) v3) (b + 16) v4
def s_abJ (J : Nat → Int32) (b : Nat) : Nat → Int32 := if b + 20 ≤ 800 then upd J 1 (nI (b + 20)) else J
theorem m_append {G : XE} (hG : x_Kn G) {B : XH} {J bf K tk ts : Nat → Int32} {tl : Int64} {tv : Nat → Int64} {su : Nat → Nat} {D : Nat → Nat → Int32} (d : Nat) (b : Nat) (hb : J 1 = nI b) (hb8 : b ≤ 800) {v0 v1 v2 v3 v4 : Int32} : x_M G mX10_append (d + 1) 0 0 [.ref 64, .int v0, .int v1, .int v2, .int v3, .int v4] (cset B J bf K tk ts tl tv su D) (x_Ret (cset B (s_abJ J b) (if b + 20 ≤ 800 then s_abx bf b v0 v1 v2 v3 v4 else bf) K tk ts tl tv su D) (.int (if b + 20 ≤ 800 then nI (b + 20) else -1))) x_noX := by
  refine X_M hG okX10_append rfl (L := [some (.ref 64), some (.int v0), some (.int v1), some (.int v2), some (.int v3), some (.int v4)]) rfl (Nat.le_of_ble_eq_true rfl) (fun ad0 nb0 => ?_)
  refine X_ld rfl rfl rfl rfl ?_
  refine X_get f_X10_36 rfl c_O (v := .int (nI b)) (congrArg Value.int hb) ?_
  refine X_push (v := .int 20) rfl (by decide +kernel) ?_
  refine X_bin rfl rfl ?_
  refine X_push (v := .int 800) rfl (by decide +kernel) ?_
  refine X_icmp_le rfl (fun c10 => ?_) (fun c10 => ?_)
  · have n10 := (n_le (m_add (x := nI b) (y := 20) (a := b) (b := 20) rfl rfl) (show (800 : Int32) = nI 800 from rfl) (by omega) (by omega)).mp c10
    refine X_ld rfl rfl rfl rfl ?_
    refine X_ld rfl rfl rfl rfl ?_
    refine X_vcallv c_O l_X10_X10_appendWord (m_appendWord hG d (b) hb (by omega)) rfl rfl rfl rfl (Nat.le_of_ble_eq_true rfl) (Nat.le_of_ble_eq_true rfl) (by omega) (Nat.le_of_ble_eq_true rfl) (Nat.le_of_ble_eq_true rfl) ?_
    refine X_ld rfl rfl rfl rfl ?_
    refine X_ld rfl rfl rfl rfl ?_
    refine X_vcallv c_O l_X10_X10_appendWord (m_appendWord hG d (b + 4) updI_eq (by omega)) rfl rfl rfl rfl (Nat.le_of_ble_eq_true rfl) (Nat.le_of_ble_eq_true rfl) (by omega) (Nat.le_of_ble_eq_true rfl) (Nat.le_of_ble_eq_true rfl) ?_
    refine X_heap (N' := cset B (upd J 1 (nI (b + 8))) (s_w4 (s_w4 bf (b) v0) (b + 4) v1) K tk ts tl tv su D) (by rw [upd_upd]) ?_
    refine X_ld rfl rfl rfl rfl ?_
    refine X_ld rfl rfl rfl rfl ?_
    refine X_vcallv c_O l_X10_X10_appendWord (m_appendWord hG d (b + 8) updI_eq (by omega)) rfl rfl rfl rfl (Nat.le_of_ble_eq_true rfl) (Nat.le_of_ble_eq_true rfl) (by omega) (Nat.le_of_ble_eq_true rfl) (Nat.le_of_ble_eq_true rfl) ?_
    refine X_heap (N' := cset B (upd J 1 (nI (b + 12))) (s_w4 (s_w4 (s_w4 bf (b) v0) (b + 4) v1) (b + 8) v2) K tk ts tl tv su D) (by rw [upd_upd]) ?_
    refine X_ld rfl rfl rfl rfl ?_
    refine X_ld rfl rfl rfl rfl ?_
    refine X_vcallv c_O l_X10_X10_appendWord (m_appendWord hG d (b + 12) updI_eq (by omega)) rfl rfl rfl rfl (Nat.le_of_ble_eq_true rfl) (Nat.le_of_ble_eq_true rfl) (by omega) (Nat.le_of_ble_eq_true rfl) (Nat.le_of_ble_eq_true rfl) ?_
    refine X_heap (N' := cset B (upd J 1 (nI (b + 16))) (s_w4 (s_w4 (s_w4 (s_w4 bf (b) v0) (b + 4) v1) (b + 8) v2) (b + 12) v3) K tk ts tl tv su D) (by rw [upd_upd]) ?_
    refine X_ld rfl rfl rfl rfl ?_
    refine X_ld rfl rfl rfl rfl ?_
    refine X_vcallv c_O l_X10_X10_appendWord (m_appendWord hG d (b + 16) updI_eq (by omega)) rfl rfl rfl rfl (Nat.le_of_ble_eq_true rfl) (Nat.le_of_ble_eq_true rfl) (by omega) (Nat.le_of_ble_eq_true rfl) (Nat.le_of_ble_eq_true rfl) ?_
    refine X_heap (N' := cset B (upd J 1 (nI (b + 20))) (s_w4 (s_w4 (s_w4 (s_w4 (s_w4 bf (b) v0) (b + 4) v1) (b + 8) v2) (b + 12) v3) (b + 16) v4) K tk ts tl tv su D) (by rw [upd_upd]) ?_
    refine X_ld rfl rfl rfl rfl ?_
    refine X_get f_X10_36 rfl c_O (v := .int (nI (b + 20))) (congrArg Value.int updI_eq) ?_
    exact X_iret rfl rfl ⟨by unfold s_abJ; rw [if_pos n10, if_pos n10]; rfl, by rw [if_pos n10]⟩ (Nat.le_of_ble_eq_true rfl) (Nat.le_of_ble_eq_true rfl)
  · have n10 := mt (n_le (m_add (x := nI b) (y := 20) (a := b) (b := 20) rfl rfl) (show (800 : Int32) = nI 800 from rfl) (by omega) (by omega)).mpr c10
    refine X_push (v := .int (-1)) rfl (by decide +kernel) ?_
    exact X_iret rfl rfl ⟨by unfold s_abJ; rw [if_neg n10, if_neg n10], by rw [if_neg n10]⟩ (Nat.le_of_ble_eq_true rfl) (Nat.le_of_ble_eq_true rfl)
theorem s_rtx_le {tx bf : Nat → Int32} {b c : Nat} (h : s_rtx tx bf b) (hc : c ≤ b) : s_rtx tx bf c := fun j hj => h j (by omega)

