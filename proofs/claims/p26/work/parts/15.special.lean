/-! ===== the rows: Math, constants ===== -/
def x_max (x y : Int32) : Int32 := if x < y then y else x
def x_min (x y : Int32) : Int32 := if y < x then y else x
def x_Lmax (own : String) (idx : Nat) : Prop := Cond.methodLink own idx Lib.Math.max.name ∈ x_T ∧ Cond.static Lib.Math.max.name ∈ x_T ∧ Cond.initialized "java/lang/Math" ∈ x_T ∧ Cond.code Lib.Math.max.name Lib.Math.max.code 2 (some .int) ∈ x_T
def x_Lmin (own : String) (idx : Nat) : Prop := Cond.methodLink own idx Lib.Math.min.name ∈ x_T ∧ Cond.static Lib.Math.min.name ∈ x_T ∧ Cond.initialized "java/lang/Math" ∈ x_T ∧ Cond.code Lib.Math.min.name Lib.Math.min.code 2 (some .int) ∈ x_T
section XR5
variable {G : XE} {M : XMI} {d mc ms nb0 : Nat} {ad0 : Nat → Nat} {Qn : XH → Option Value → Prop} {Qx : XH → String → Prop} {N : XH} {cells slots pc pc' t : Nat} {L : List (Option Value)} {st : List Value}
theorem X_max {idx : Nat} {x y : Int32} (hl : x_Lmax (x_own M) idx) (hd : x_at (x_k M) pc = some (.invokestatic idx, pc', t)) (hf : 1 ≤ d) (hs : (st.map fun v => v.category).sum ≤ 87) (h1 : cells ≤ mc) (h2 : slots ≤ ms) (kk : x_W G M (x_Z G d mc ms ad0 nb0 Qn Qx) N cells slots pc' L (.int (x_max x y) :: st)) : x_W G M (x_Z G d mc ms ad0 nb0 Qn Qx) N cells slots pc L (.int y :: .int x :: st) := by
  intro p e s m args below meth c ad nb H locs ls B hR hnb he hS hl0 hvs
  obtain ⟨hx, hb, hml, hr, hlk, hown, hts, hW, hkp, htb, hnm, hKn, hok⟩ := id B
  obtain ⟨d1, e1⟩ := x_decn hok hd (n := 2) rfl
  subst e1
  obtain ⟨l1, l2, l3, l4⟩ := hl
  exact va_mmax hx hb (hml.trans hl0.1.1.symm) hown (hts _ l1) (hts _ l2) (hts _ l3) (hts _ l4) hf (by show ((st.map (x_tr ad)).map fun v => v.category).sum + 13 ≤ 100 * d; rw [x_cat_sum]; omega) h1 h2 d1 (kk p e s m args below meth c ad nb H locs ls B hR hnb he hS hl0 (List.forall_mem_cons.mpr ⟨trivial, (List.forall_mem_cons.mp (List.forall_mem_cons.mp hvs).2).2⟩))
theorem X_min {idx : Nat} {x y : Int32} (hl : x_Lmin (x_own M) idx) (hd : x_at (x_k M) pc = some (.invokestatic idx, pc', t)) (hf : 1 ≤ d) (hs : (st.map fun v => v.category).sum ≤ 87) (h1 : cells ≤ mc) (h2 : slots ≤ ms) (kk : x_W G M (x_Z G d mc ms ad0 nb0 Qn Qx) N cells slots pc' L (.int (x_min x y) :: st)) : x_W G M (x_Z G d mc ms ad0 nb0 Qn Qx) N cells slots pc L (.int y :: .int x :: st) := by
  intro p e s m args below meth c ad nb H locs ls B hR hnb he hS hl0 hvs
  obtain ⟨hx, hb, hml, hr, hlk, hown, hts, hW, hkp, htb, hnm, hKn, hok⟩ := id B
  obtain ⟨d1, e1⟩ := x_decn hok hd (n := 2) rfl
  subst e1
  obtain ⟨l1, l2, l3, l4⟩ := hl
  exact va_mmin hx hb (hml.trans hl0.1.1.symm) hown (hts _ l1) (hts _ l2) (hts _ l3) (hts _ l4) hf (by show ((st.map (x_tr ad)).map fun v => v.category).sum + 13 ≤ 100 * d; rw [x_cat_sum]; omega) h1 h2 d1 (kk p e s m args below meth c ad nb H locs ls B hR hnb he hS hl0 (List.forall_mem_cons.mpr ⟨trivial, (List.forall_mem_cons.mp (List.forall_mem_cons.mp hvs).2).2⟩))
theorem X_ldc {Z : XZ} {idx : Nat} {v : Int32} (hc : Cond.constant (x_own M) idx v ∈ x_T) (hd : x_at (x_k M) pc = some (.ldc idx, pc', t)) (kk : x_W G M Z N cells slots pc' L (.int v :: st)) : x_W G M Z N cells slots pc L st := by
  intro p e s m args below meth c ad nb H locs ls B hR hnb he hS hl0 hvs
  obtain ⟨hx, hb, hml, hr, hlk, hown, hts, hW, hkp, htb, hnm, hKn, hok⟩ := id B
  obtain ⟨d1, e1⟩ := x_decn hok hd (n := 1) rfl
  subst e1
  exact lv_ldc hx hb hown (hts _ hc) d1 (kk p e s m args below meth c ad nb H locs ls B hR hnb he hS hl0 (List.forall_mem_cons.mpr ⟨trivial, hvs⟩))
theorem X_ldc2 {Z : XZ} {idx : Nat} {v : Int64} (hc : Cond.constantLong (x_own M) idx v ∈ x_T) (hd : x_at (x_k M) pc = some (.ldc2_w idx, pc', t)) (kk : x_W G M Z N cells slots pc' L (.long v :: st)) : x_W G M Z N cells slots pc L st := by
  intro p e s m args below meth c ad nb H locs ls B hR hnb he hS hl0 hvs
  obtain ⟨hx, hb, hml, hr, hlk, hown, hts, hW, hkp, htb, hnm, hKn, hok⟩ := id B
  obtain ⟨d1, e1⟩ := x_decn hok hd (n := 2) rfl
  subst e1
  exact lv_ldc2 hx hb hown (hts _ hc) d1 (kk p e s m args below meth c ad nb H locs ls B hR hnb he hS hl0 (List.forall_mem_cons.mpr ⟨trivial, hvs⟩))
end XR5
