/-! ===== the class's reader: a new statement's cells ===== -/
def y_hv0 : Nat → Int32 := upd (upd (upd (upd (fun _ => (0 : Int32)) 0 (-1)) 1 (-1)) 2 (-1)) 3 (-1)
theorem y_hv0_at : ∀ h, h < 4 → y_hv0 h = -1
  | 0, _ => rfl
  | 1, _ => rfl
  | 2, _ => rfl
  | 3, _ => rfl
  | h + 4, e => absurd e (by omega)
/-- the cells beside, when the holes' types have moved there -/
def y_B1 (B : XH) (ρ : Nat → Nat) (hv : Nat → Int32) : XH := x_set B (ρ 4) (.inr (true, .int, 4, fun j => .int (hv j)))
theorem rO_ht {i a b v : Nat} {er ea : Int32} : updV (rO i a b er ea) 3 (.ref v) = rO i a v er ea := by
  funext j
  match j with
  | 0 => rfl
  | 1 => rfl
  | 2 => rfl
  | 3 => rfl
  | 4 => rfl
  | j + 5 => rfl
theorem w_ht {B : XH} {ρ : Nat → Nat} {i v : Nat} {er ea : Int32} {sv ty hv hv' : Nat → Int32} {nm : Nat → Int64} (hρ : y_ds ρ B) (hne : ∀ a, a < 5 → ¬ v = ρ a) : x_set (x_set (rset B ρ i er ea sv nm ty hv) v (.inr (true, .int, 4, fun j => .int (hv' j)))) (ρ 0) (.inl (6, updV (rO i (ρ 1) (ρ 4) er ea) 3 (.ref v))) = rset (y_B1 B ρ hv) (updN ρ 4 v) i er ea sv nm ty hv' := by
  rw [rO_ht]
  funext q
  show _ = (if q = ρ 0 then some (.inl (6, rO i (ρ 1) v er ea)) else if q = ρ 1 then some (.inl (5, stV (ρ 2) (ρ 3) (ρ 5) sv)) else if q = ρ 2 then some (.inr (true, .long, 5, fun j => .long (nm j))) else if q = ρ 3 then some (.inr (true, .int, 5, fun j => .int (ty j))) else if q = v then some (.inr (true, .int, 4, fun j => .int (hv' j))) else x_set B (ρ 4) (.inr (true, .int, 4, fun j => .int (hv j))) q)
  by_cases e0 : q = ρ 0
  · rw [e0, x_set_eq, if_pos rfl]
  · rw [x_set_ne e0, if_neg e0]
    by_cases ev : q = v
    · rw [ev, x_set_eq, if_neg (hne 1 (by decide)), if_neg (hne 2 (by decide)), if_neg (hne 3 (by decide)), if_pos rfl]
    · rw [x_set_ne ev, if_neg ev]
      unfold rset
      rw [if_neg e0]
      by_cases e1 : q = ρ 1
      · rw [if_pos e1, if_pos e1]
      · rw [if_neg e1, if_neg e1]
        by_cases e2 : q = ρ 2
        · rw [if_pos e2, if_pos e2]
        · rw [if_neg e2, if_neg e2]
          by_cases e3 : q = ρ 3
          · rw [if_pos e3, if_pos e3]
          · rw [if_neg e3, if_neg e3]
            by_cases e4 : q = ρ 4
            · rw [if_pos e4, e4, x_set_eq]
            · rw [if_neg e4, x_set_ne e4]
theorem y_ds_ht {B : XH} {ρ : Nat → Nat} {v : Nat} {hv : Nat → Int32} (hρ : y_ds ρ B) (h1 : s_out v) (h2 : B v = none) (h64 : 64 ≤ v) (hne : ∀ a, a < 5 → ¬ v = ρ a) : y_ds (updN ρ 4 v) (y_B1 B ρ hv) := by
  refine ⟨fun a b ha hb h => ?_, fun a ha => ?_⟩
  · by_cases ea : a = 4
    · by_cases eb : b = 4
      · omega
      · rw [ea, updN_eq, updN_ne eb] at h
        exact absurd h (hne b hb)
    · by_cases eb : b = 4
      · rw [eb, updN_eq, updN_ne ea] at h
        exact absurd h.symm (hne a ha)
      · rw [updN_ne ea, updN_ne eb] at h
        exact hρ.1 a b ha hb h
  · by_cases ea : a = 4
    · rw [ea, updN_eq]
      exact ⟨h1, (x_set_ne (hne 4 (by decide))).trans h2, h64⟩
    · rw [updN_ne ea]
      exact ⟨(hρ.2 a ha).1, (x_set_ne (hρ.ne a 4 ha (by decide) ea)).trans (hρ.2 a ha).2.1, (hρ.2 a ha).2.2⟩
theorem w_pr66 {G : XE} (hG : x_Kn G) (hK : x_KS G) {B : XH} {J bf K tk ts : Nat → Int32} {tl : Int64} {tv : Nat → Int64} {su : Nat → Nat} {D : Nat → Nat → Int32} {ρ : Nat → Nat} (hρ : y_ds ρ B) {i : Nat} {er ea : Int32} {sv ty hv : Nat → Int32} {nm : Nat → Int64} (d : Nat) (hX : B 0 = none ∧ B 2 = none) {st : Int32} {z : Int64} {mc ms nb0 cells slots : Nat} {ad0 : Nat → Nat} {Qn : XH → Option Value → Prop} (hc : cells + 2 ≤ mc) (hs : slots + 8 ≤ ms) (kk : ∀ (v po : Nat) (ρ2 : Nat → Nat), (∀ a, a ≠ 4 → ρ2 a = ρ a) → ρ2 4 = v → (s_out v ∧ B v = none ∧ 64 ≤ v ∧ ∀ a, a < 5 → ¬ v = ρ a) → (s_out po ∧ y_B1 B ρ hv po = none ∧ 64 ≤ po ∧ ∀ a, a < 5 → ¬ po = ρ2 a) → y_ds ρ2 (x_set (y_B1 B ρ hv) po (.inl (4, y_dfl tyX4))) → x_W G mX6_readPrepare (x_Z G (d + 28) mc ms ad0 nb0 Qn x_noX) (cset (rset (x_set (y_B1 B ρ hv) po (.inl (4, y_dfl tyX4))) ρ2 i er ea sv nm ty y_hv0) J bf K tk ts tl tv su D) (cells + 2) (slots + 8) 100 [some (.ref (ρ2 0)), some (.int st), some (.long z), none, some (.ref v), none] [.int 0, .ref (ρ2 0), .long z, .ref po, .ref po]) : x_W G mX6_readPrepare (x_Z G (d + 28) mc ms ad0 nb0 Qn x_noX) (cset (rset B ρ i er ea sv nm ty hv) J bf K tk ts tl tv su D) cells slots 66 [some (.ref (ρ 0)), some (.int st), some (.long z), none, none, none] [] := by
  refine X_push (v := .int 4) rfl (by decide +kernel) ?_
  refine X_newaK 4 rfl rfl (List.mem_of_getElem? (i := 0) rfl) (x_in 131 (by decide +kernel) rfl) (by decide) rfl (by decide) (by show _ + 1 ≤ mc; omega) (by show _ + 4 ≤ ms; omega) (x_K_any (y_none2 hρ hX.1) (fun v hv9 h64 => ?_))
  obtain ⟨g1, g2, g3, -⟩ := rc_new hv9
  refine X_heap (N' := x_set (cset (rset B ρ i er ea sv nm ty hv) J bf K tk ts tl tv su D) v (.inr (true, .int, 4, fun j => .int ((fun _ => (0 : Int32)) j)))) rfl ?_
  refine X_dup rfl rfl ?_
  refine X_push (v := .int 0) rfl (by decide +kernel) ?_
  refine X_push (v := .int (-1)) rfl (by decide +kernel) ?_
  refine X_iast rfl x_set_eq (show vp_in (nI 0) 4 from vp_in_nI (by decide) (by decide)) ?_
  refine X_heap (N' := x_set (cset (rset B ρ i er ea sv nm ty hv) J bf K tk ts tl tv su D) v (.inr (true, .int, 4, fun j => .int ((upd (fun _ => (0 : Int32)) 0 (-1)) j)))) (by rw [x_set_set, show (0 : Int32).toNatClampNeg = 0 from rfl, updV_int]) ?_
  refine X_dup rfl rfl ?_
  refine X_push (v := .int 1) rfl (by decide +kernel) ?_
  refine X_push (v := .int (-1)) rfl (by decide +kernel) ?_
  refine X_iast rfl x_set_eq (show vp_in (nI 1) 4 from vp_in_nI (by decide) (by decide)) ?_
  refine X_heap (N' := x_set (cset (rset B ρ i er ea sv nm ty hv) J bf K tk ts tl tv su D) v (.inr (true, .int, 4, fun j => .int ((upd (upd (fun _ => (0 : Int32)) 0 (-1)) 1 (-1)) j)))) (by rw [x_set_set, show (1 : Int32).toNatClampNeg = 1 from rfl, updV_int]) ?_
  refine X_dup rfl rfl ?_
  refine X_push (v := .int 2) rfl (by decide +kernel) ?_
  refine X_push (v := .int (-1)) rfl (by decide +kernel) ?_
  refine X_iast rfl x_set_eq (show vp_in (nI 2) 4 from vp_in_nI (by decide) (by decide)) ?_
  refine X_heap (N' := x_set (cset (rset B ρ i er ea sv nm ty hv) J bf K tk ts tl tv su D) v (.inr (true, .int, 4, fun j => .int ((upd (upd (upd (fun _ => (0 : Int32)) 0 (-1)) 1 (-1)) 2 (-1)) j)))) (by rw [x_set_set, show (2 : Int32).toNatClampNeg = 2 from rfl, updV_int]) ?_
  refine X_dup rfl rfl ?_
  refine X_push (v := .int 3) rfl (by decide +kernel) ?_
  refine X_push (v := .int (-1)) rfl (by decide +kernel) ?_
  refine X_iast rfl x_set_eq (show vp_in (nI 3) 4 from vp_in_nI (by decide) (by decide)) ?_
  refine X_heap (N' := x_set (cset (rset B ρ i er ea sv nm ty hv) J bf K tk ts tl tv su D) v (.inr (true, .int, 4, fun j => .int ((upd (upd (upd (upd (fun _ => (0 : Int32)) 0 (-1)) 1 (-1)) 2 (-1)) 3 (-1)) j)))) (by rw [x_set_set, show (3 : Int32).toNatClampNeg = 3 from rfl, updV_int]) ?_
  refine X_st rfl rfl rfl ?_
  refine X_ld rfl rfl rfl rfl ?_
  refine X_ld rfl rfl rfl rfl ?_
  refine X_put f_X6_18 rfl ((x_set_ne (Ne.symm (g3 0 (by decide)))).trans (c_B (hρ.o 0 (by decide)) rs_r)) ⟨rfl, rfl⟩ ?_
  refine X_heap (N' := cset (rset (y_B1 B ρ hv) (updN ρ 4 v) i er ea sv nm ty y_hv0) J bf K tk ts tl tv su D) (by rw [y_set g1, y_set (hρ.o 0 (by decide)), w_ht hρ g3]; rfl) ?_
  have hρ1 : y_ds (updN ρ 4 v) (y_B1 B ρ hv) := y_ds_ht hρ g1 g2 h64 g3
  have e0 : updN ρ 4 v 0 = ρ 0 := updN_ne (by decide)
  have e4 : updN ρ 4 v 4 = v := updN_eq
  have ea : ∀ a, a ≠ 4 → updN ρ 4 v a = ρ a := fun a h => updN_ne h
  generalize updN ρ 4 v = ρ2 at *
  have hX1 : y_B1 B ρ hv 0 = none := (x_set_ne (by have := (hρ.2 4 (by decide)).2.2; omega)).trans hX.1
  refine X_newK n_X6_169 rfl (by show _ + 1 ≤ mc; omega) (by show _ + 4 ≤ ms; omega) (x_K_any (y_none2 hρ1 hX1) (fun po hq9 h64p => ?_))
  obtain ⟨p1, p2, p3, p4⟩ := rc_new hq9
  refine X_heap (p4 (.inl (4, y_dfl tyX4))) ?_
  refine X_dup rfl rfl ?_
  refine X_ld rfl rfl rfl rfl ?_
  refine X_ld rfl rfl rfl rfl ?_
  refine X_push (v := .int 0) rfl (by decide +kernel) ?_
  rw [← e0]
  exact kk v po ρ2 ea e4 ⟨g1, g2, h64, g3⟩ ⟨p1, p2, h64p, p3⟩ (hρ1.set p3)

