/-! ===== the law: what is caught; the law's long ===== -/
/-- a cell that nothing is known of gets a name -/
theorem x_R_name {G : XE} {ad : Nat → Nat} {nb q : Nat} {N : XH} {H : Heap} (h : x_R G ad nb N H) (h0 : N 0 = none) : x_R G (x_adn ad nb q) (nb + 1) N H := by
  obtain ⟨h1, h2, h3, h4, h5⟩ := h
  have at1 : ∀ k, k ≠ nb → x_adn ad nb q k = ad k := fun k hk => by
    unfold x_adn
    rw [if_neg hk]
  refine ⟨fun k d k0 hk => ?_, fun i j ci cj i0 j0 hi hj he => ?_, fun k hk => ?_, by omega, fun d hd => by rw [h0] at hd; cases hd⟩
  · obtain ⟨a1, a2, a3⟩ := h1 k d k0 hk
    refine ⟨by omega, x_cok_mono (by omega) a2, ?_⟩
    rw [at1 k (by omega)]
    exact x_cell_ext (x_adn_ext ad nb q) a2 a3
  · have a1 := (h1 i ci i0 hi).1
    have b1 := (h1 j cj j0 hj).1
    rw [at1 i (by omega), at1 j (by omega)] at he
    exact h2 i j ci cj i0 j0 hi hj he
  · rw [at1 k (by omega)]
    exact h3 k hk
/-- caught by row a of the method's table; the rows ahead name other classes -/
theorem X_catch {G : XE} {M : XMI} {Z : XZ} {N : XH} {cells slots pc : Nat} {L : List (Option Value)} {E name : String} {pre suf : List (Nat × Nat × Nat × Nat)} {a : Nat × Nat × Nat × Nat} (h0 : N 0 = none) (hh : x_hh M = pre ++ a :: suf) (hpass : ∀ z ∈ pre, z.2.2.2 ≠ 0 ∧ ∃ nm, Cond.classLink (x_own M) z.2.2.2 nm ∈ x_T ∧ va_Nc E nm (x_S G)) (hcov : covers ⟨a.1, a.2.1, a.2.2.1, a.2.2.2⟩ pc = true) (hz : a.2.2.2 ≠ 0) (hlink : Cond.classLink (x_own M) a.2.2.2 name ∈ x_T) (hcast : Cond.castable E name ∈ lw_tbl) (kk : ∀ q0, x_W G M Z N cells slots a.2.2.1 L [.ref q0]) : x_X G M Z N cells slots pc L E := by
  intro p e s m args below meth c ad nb H locs ls rest q ce B hR hnb he hS hl hcell hv hcl
  obtain ⟨hx, hb, hml, hr, hlk, hown, hts, hW, hkp, htb, hnm, hKn, hok⟩ := id B
  have ext := x_adn_ext ad nb q
  have K := kk nb p e s m args below meth c (x_adn ad nb q) (nb + 1) H locs ls B (x_R_name hR h0) (by omega) (fun k hk => (ext k (by omega)).trans (he k hk)) hS (x_L_ext ext (by omega) hl) (fun v hv => by
    rw [List.mem_singleton.mp hv]
    exact Nat.lt_succ_self nb)
  have e1 : [Value.ref nb].map (x_tr (x_adn ad nb q)) = [.ref q] := by
    show [Value.ref (x_adn ad nb q nb)] = _
    unfold x_adn
    rw [if_pos rfl]
  rw [e1] at K
  exact vx_catch hown (tableOf pre) ⟨a.1, a.2.1, a.2.2.1, a.2.2.2⟩ (tableOf suf) (by rw [htb, hh]; unfold tableOf; rw [List.map_append]; rfl) (fun z hz9 => by
    unfold tableOf at hz9
    obtain ⟨y, y1, y2⟩ := List.mem_map.mp hz9
    obtain ⟨p1, nm, p2, p3⟩ := hpass y y1
    subst y2
    exact Or.inr ⟨p1, nm, hts _ p2, va_Nc.moved hW.alike p3⟩) hcov hz (hts _ hlink) (x_dcB hts hW hKn hcast (by rw [Bool.or_eq_true]; exact Or.inr rfl)) hcell hv hcl K
/-- what classes don't fit which: a premise that the law's start meets -/
def x_KN (G : XE) : Prop := va_Nc "java/lang/IllegalArgumentException" "java/lang/IndexOutOfBoundsException" (x_S G) ∧ va_Nc "java/lang/IllegalStateException" "java/lang/IllegalArgumentException" (x_S G)
theorem s_out281 : s_out 281 := ⟨by omega, by omega⟩
section LOUT
variable {G : XE} {M : XMI} {Z : XZ} {cells slots pc pc' t : Nat} {L : List (Option Value)} {st : List Value} {B : XH} {ov v : Int64} {I : Nat → Int32} {T : Int64} {S : Nat → Nat → Int32} {rd tx gv : Nat → Int32} {P : Nat → Bool} {J bf K tk ts : Nat → Int32} {tl : Int64} {tv : Nat → Int64} {su : Nat → Nat} {D : Nat → Nat → Int32}
/-- the law's long is set -/
theorem X_lout (hd : x_at (x_k M) pc = some (.lastore, pc', t)) (kk : x_W G M Z (cset (L_X B v I T S rd tx gv P) J bf K tk ts tl tv su D) cells slots pc' L st) : x_W G M Z (cset (L_X B ov I T S rd tx gv P) J bf K tk ts tl tv su D) cells slots pc L (.long v :: .int 0 :: .ref 281 :: st) := by
  refine X_last (n := 1) (f := fun _ => .long ov) hd (c_B s_out281 L_281) (vp_in_nI (n := 0) (N := 1) (by omega) (by omega)) ?_
  refine X_arre (a := 281) (mu := true) (ty := .long) (n := 1) (f' := fun _ => .long v) x_set_eq (fun j hj => ?_) ?_
  · have e : j = 0 := by omega
    subst e
    rfl
  · rw [x_set_set, y_set s_out281]
    have e : x_set (L_X B ov I T S rd tx gv P) 281 (.inr (true, .long, 1, fun _ => .long v)) = L_X B v I T S rd tx gv P := L_o
    rw [e]
    exact kk
/-- it is read -/
theorem X_lin (hd : x_at (x_k M) pc = some (.laload, pc', t)) (kk : x_W G M Z (cset (L_X B ov I T S rd tx gv P) J bf K tk ts tl tv su D) cells slots pc' L (.long ov :: st)) : x_W G M Z (cset (L_X B ov I T S rd tx gv P) J bf K tk ts tl tv su D) cells slots pc L (.int 0 :: .ref 281 :: st) :=
  X_lald (n := 1) (f := fun _ => .long ov) hd (c_B s_out281 L_281) (vp_in_nI (n := 0) (N := 1) (by omega) (by omega)) rfl kk
end LOUT
/-- a wrapper's end: its code is the reference's, and so is its answer -/
def L_QW (C : Int64 → XH → Prop) (A : Int32 × Int32) : XH → Option Value → Prop := fun N r => ∃ o, C o N ∧ r = some (.int A.1) ∧ (A.1 = 0 → o = A.2.toInt64)
def L_QL (C : Int64 → XH → Prop) (A : Int32 × Int64) : XH → Option Value → Prop := fun N r => ∃ o, C o N ∧ r = some (.int A.1) ∧ (A.1 = 0 → o = A.2)
