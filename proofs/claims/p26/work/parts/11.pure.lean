/-! ===== the rows: pure instructions ===== -/
section XR1
variable {G : XE} {M : XMI} {Z : XZ} {N : XH} {cells slots pc pc' t : Nat} {L L' : List (Option Value)} {st : List Value} {i : Instr}
theorem X_push {v : Value} (hd : x_at (x_k M) pc = some (i, pc', t)) (hv : x_push i = some v) (kk : x_W G M Z N cells slots pc' L (v :: st)) : x_W G M Z N cells slots pc L st := by
  intro p e s m args below meth c ad nb H locs ls B hR hn he hS hl hvs
  have hx := B.1
  have hb := B.2.1
  have hok := B.2.2.2.2.2.2.2.2.2.2.2.2
  unfold x_push at hv
  split at hv
  · cases hv
    obtain ⟨d1, e1⟩ := x_decn hok hd (n := 0) rfl
    subst e1
    exact lv_iconst hx hb d1 rfl (kk p e s m args below meth c ad nb H locs ls B hR hn he hS hl (List.forall_mem_cons.mpr ⟨trivial, hvs⟩))
  · cases hv
    obtain ⟨d1, e1⟩ := x_decn hok hd (n := 1) rfl
    subst e1
    exact lv_bipush hx hb d1 rfl (kk p e s m args below meth c ad nb H locs ls B hR hn he hS hl (List.forall_mem_cons.mpr ⟨trivial, hvs⟩))
  · cases hv
    obtain ⟨d1, e1⟩ := x_decn hok hd (n := 2) rfl
    subst e1
    exact lv_sipush hx hb d1 rfl (kk p e s m args below meth c ad nb H locs ls B hR hn he hS hl (List.forall_mem_cons.mpr ⟨trivial, hvs⟩))
  · cases hv
    obtain ⟨d1, e1⟩ := x_decn hok hd (n := 0) rfl
    subst e1
    exact lv_lconst hx hb d1 rfl (kk p e s m args below meth c ad nb H locs ls B hR hn he hS hl (List.forall_mem_cons.mpr ⟨trivial, hvs⟩))
  · cases hv
    obtain ⟨d1, e1⟩ := x_decn hok hd (n := 0) rfl
    subst e1
    exact lv_null hx hb d1 (kk p e s m args below meth c ad nb H locs ls B hR hn he hS hl (List.forall_mem_cons.mpr ⟨trivial, hvs⟩))
  · cases hv
theorem X_ld {k : Nat} {v : Value} (hd : x_at (x_k M) pc = some (i, pc', t)) (hi : x_ldi i = some k) (hL : x_loc L k = some v) (ht : x_ldok i v = true) (kk : x_W G M Z N cells slots pc' L (v :: st)) : x_W G M Z N cells slots pc L st := by
  intro p e s m args below meth c ad nb H locs ls B hR hn he hS hl hvs
  have hx := B.1
  have hb := B.2.1
  have hok := B.2.2.2.2.2.2.2.2.2.2.2.2
  obtain ⟨g1, g2⟩ := hl.2.2 k v ((x_loc_get _ _ _).mp hL)
  have K := kk p e s m args below meth c ad nb H locs ls B hR hn he hS hl (List.forall_mem_cons.mpr ⟨g2, hvs⟩)
  unfold x_ldok at ht
  split at ht
  · cases hi
    obtain ⟨d1, e1⟩ := x_decn hok hd (n := 0) rfl
    subst e1
    exact lv_iload_n hx hb d1 rfl g1 K
  · cases hi
    obtain ⟨d1, e1⟩ := x_decn hok hd (n := 1) rfl
    subst e1
    exact lv_iload hx hb d1 g1 K
  · cases hi
    obtain ⟨d1, e1⟩ := x_decn hok hd (n := 0) rfl
    subst e1
    exact lv_lload_n hx hb d1 rfl g1 K
  · cases hi
    obtain ⟨d1, e1⟩ := x_decn hok hd (n := 1) rfl
    subst e1
    exact lv_lload hx hb d1 g1 K
  · cases hi
    obtain ⟨d1, e1⟩ := x_decn hok hd (n := 0) rfl
    subst e1
    exact lv_aload_n hx hb d1 rfl g1 K
  · cases hi
    obtain ⟨d1, e1⟩ := x_decn hok hd (n := 1) rfl
    subst e1
    exact lv_aload hx hb d1 g1 K
  · cases hi
    obtain ⟨d1, e1⟩ := x_decn hok hd (n := 0) rfl
    subst e1
    exact lv_aload_nN hx hb d1 rfl g1 K
  · cases hi
    obtain ⟨d1, e1⟩ := x_decn hok hd (n := 1) rfl
    subst e1
    exact lv_aloadN hx hb d1 g1 K
  · cases ht
theorem X_st {k : Nat} {v : Value} (hd : x_at (x_k M) pc = some (i, pc', t)) (hi : x_sti i v = some k) (hL : x_put1 v k L = some L') (kk : x_W G M Z N cells slots pc' L' st) : x_W G M Z N cells slots pc L (v :: st) := by
  intro p e s m args below meth c ad nb H locs ls B hR hn he hS hl hvs
  have hx := B.1
  have hb := B.2.1
  have hok := B.2.2.2.2.2.2.2.2.2.2.2.2
  obtain ⟨v1, v2⟩ := List.forall_mem_cons.mp hvs
  have hh := x_L_has hl
  have hlt : k < x_nL M := Nat.lt_of_lt_of_le (x_put1_eq hL).2.1 hl.1.2
  have K := fun ls' h' => kk p e s m args below meth c ad nb H locs ls' B hR hn he hS (x_L_put1 hl v1 hL h') v2
  unfold x_sti at hi
  split at hi
  · cases hi
    obtain ⟨d1, e1⟩ := x_decn hok hd (n := 0) rfl
    subst e1
    exact lv_istore_n hx hb d1 rfl hh hlt rfl K
  · cases hi
    obtain ⟨d1, e1⟩ := x_decn hok hd (n := 1) rfl
    subst e1
    exact lv_istore hx hb d1 hh hlt rfl K
  · cases hi
    obtain ⟨d1, e1⟩ := x_decn hok hd (n := 0) rfl
    subst e1
    exact lv_astore_n hx hb d1 rfl hh hlt rfl K
  · cases hi
    obtain ⟨d1, e1⟩ := x_decn hok hd (n := 1) rfl
    subst e1
    exact lv_astore hx hb d1 hh hlt rfl K
  · cases hi
    obtain ⟨d1, e1⟩ := x_decn hok hd (n := 0) rfl
    subst e1
    exact lv_astore_nN hx hb d1 rfl hh hlt rfl K
  · cases hi
    obtain ⟨d1, e1⟩ := x_decn hok hd (n := 1) rfl
    subst e1
    exact lv_astoreN hx hb d1 hh hlt rfl K
  · cases hi
theorem X_stl {k : Nat} {x : Int64} (hd : x_at (x_k M) pc = some (i, pc', t)) (hi : x_stl i = some k) (hL : x_put2 (.long x) k L = some L') (kk : x_W G M Z N cells slots pc' L' st) : x_W G M Z N cells slots pc L (.long x :: st) := by
  intro p e s m args below meth c ad nb H locs ls B hR hn he hS hl hvs
  have hx := B.1
  have hb := B.2.1
  have hok := B.2.2.2.2.2.2.2.2.2.2.2.2
  obtain ⟨v1, v2⟩ := List.forall_mem_cons.mp hvs
  have hh := x_L_has hl
  have hlt : k + 1 < x_nL M := Nat.lt_of_lt_of_le (x_put2_eq hL).2.1 hl.1.2
  have K := fun ls' h' => kk p e s m args below meth c ad nb H locs ls' B hR hn he hS (x_L_put2 hl v1 hL h') v2
  unfold x_stl at hi
  split at hi
  · cases hi
    obtain ⟨d1, e1⟩ := x_decn hok hd (n := 0) rfl
    subst e1
    exact lv_lstore_n hx hb d1 rfl hh hlt rfl K
  · cases hi
    obtain ⟨d1, e1⟩ := x_decn hok hd (n := 1) rfl
    subst e1
    exact lv_lstore hx hb d1 hh hlt rfl K
  · cases hi
theorem X_bin {x y v : Value} (hd : x_at (x_k M) pc = some (i, pc', t)) (hv : x_bin i x y = some v) (kk : x_W G M Z N cells slots pc' L (v :: st)) : x_W G M Z N cells slots pc L (y :: x :: st) := by
  intro p e s m args below meth c ad nb H locs ls B hR hn he hS hl hvs
  have hx := B.1
  have hb := B.2.1
  have hok := B.2.2.2.2.2.2.2.2.2.2.2.2
  have hvs2 := (List.forall_mem_cons.mp (List.forall_mem_cons.mp hvs).2).2
  unfold x_bin at hv
  split at hv
  · cases hv
    obtain ⟨d1, e1⟩ := x_decn hok hd (n := 0) rfl
    subst e1
    exact lv_iadd hx hb d1 (kk p e s m args below meth c ad nb H locs ls B hR hn he hS hl (List.forall_mem_cons.mpr ⟨trivial, hvs2⟩))
  · cases hv
    obtain ⟨d1, e1⟩ := x_decn hok hd (n := 0) rfl
    subst e1
    exact lv_isub hx hb d1 (kk p e s m args below meth c ad nb H locs ls B hR hn he hS hl (List.forall_mem_cons.mpr ⟨trivial, hvs2⟩))
  · cases hv
    obtain ⟨d1, e1⟩ := x_decn hok hd (n := 0) rfl
    subst e1
    exact lv_imul hx hb d1 (kk p e s m args below meth c ad nb H locs ls B hR hn he hS hl (List.forall_mem_cons.mpr ⟨trivial, hvs2⟩))
  · cases hv
    obtain ⟨d1, e1⟩ := x_decn hok hd (n := 0) rfl
    subst e1
    exact lv_iand hx hb d1 (kk p e s m args below meth c ad nb H locs ls B hR hn he hS hl (List.forall_mem_cons.mpr ⟨trivial, hvs2⟩))
  · cases hv
    obtain ⟨d1, e1⟩ := x_decn hok hd (n := 0) rfl
    subst e1
    exact lv_ior hx hb d1 (kk p e s m args below meth c ad nb H locs ls B hR hn he hS hl (List.forall_mem_cons.mpr ⟨trivial, hvs2⟩))
  · cases hv
    obtain ⟨d1, e1⟩ := x_decn hok hd (n := 0) rfl
    subst e1
    exact lv_ixor hx hb d1 (kk p e s m args below meth c ad nb H locs ls B hR hn he hS hl (List.forall_mem_cons.mpr ⟨trivial, hvs2⟩))
  · cases hv
    obtain ⟨d1, e1⟩ := x_decn hok hd (n := 0) rfl
    subst e1
    exact lv_ishl hx hb d1 (kk p e s m args below meth c ad nb H locs ls B hR hn he hS hl (List.forall_mem_cons.mpr ⟨trivial, hvs2⟩))
  · cases hv
    obtain ⟨d1, e1⟩ := x_decn hok hd (n := 0) rfl
    subst e1
    exact lv_ishr hx hb d1 (kk p e s m args below meth c ad nb H locs ls B hR hn he hS hl (List.forall_mem_cons.mpr ⟨trivial, hvs2⟩))
  · cases hv
    obtain ⟨d1, e1⟩ := x_decn hok hd (n := 0) rfl
    subst e1
    exact lv_ladd hx hb d1 (kk p e s m args below meth c ad nb H locs ls B hR hn he hS hl (List.forall_mem_cons.mpr ⟨trivial, hvs2⟩))
  · cases hv
    obtain ⟨d1, e1⟩ := x_decn hok hd (n := 0) rfl
    subst e1
    exact lv_lsub hx hb d1 (kk p e s m args below meth c ad nb H locs ls B hR hn he hS hl (List.forall_mem_cons.mpr ⟨trivial, hvs2⟩))
  · cases hv
    obtain ⟨d1, e1⟩ := x_decn hok hd (n := 0) rfl
    subst e1
    exact lv_lmul hx hb d1 (kk p e s m args below meth c ad nb H locs ls B hR hn he hS hl (List.forall_mem_cons.mpr ⟨trivial, hvs2⟩))
  · cases hv
    obtain ⟨d1, e1⟩ := x_decn hok hd (n := 0) rfl
    subst e1
    exact lv_land hx hb d1 (kk p e s m args below meth c ad nb H locs ls B hR hn he hS hl (List.forall_mem_cons.mpr ⟨trivial, hvs2⟩))
  · cases hv
    obtain ⟨d1, e1⟩ := x_decn hok hd (n := 0) rfl
    subst e1
    exact lv_lor hx hb d1 (kk p e s m args below meth c ad nb H locs ls B hR hn he hS hl (List.forall_mem_cons.mpr ⟨trivial, hvs2⟩))
  · cases hv
    obtain ⟨d1, e1⟩ := x_decn hok hd (n := 0) rfl
    subst e1
    exact lv_lxor hx hb d1 (kk p e s m args below meth c ad nb H locs ls B hR hn he hS hl (List.forall_mem_cons.mpr ⟨trivial, hvs2⟩))
  · cases hv
    obtain ⟨d1, e1⟩ := x_decn hok hd (n := 0) rfl
    subst e1
    exact lv_lushr hx hb d1 rfl (kk p e s m args below meth c ad nb H locs ls B hR hn he hS hl (List.forall_mem_cons.mpr ⟨trivial, hvs2⟩))
  · cases hv
    obtain ⟨d1, e1⟩ := x_decn hok hd (n := 0) rfl
    subst e1
    exact lv_lshl hx hb d1 rfl (kk p e s m args below meth c ad nb H locs ls B hR hn he hS hl (List.forall_mem_cons.mpr ⟨trivial, hvs2⟩))
  · cases hv
    obtain ⟨d1, e1⟩ := x_decn hok hd (n := 0) rfl
    subst e1
    exact W.lcmp hx hb d1 (kk p e s m args below meth c ad nb H locs ls B hR hn he hS hl (List.forall_mem_cons.mpr ⟨trivial, hvs2⟩))
  · cases hv
theorem X_un {x v : Value} (hd : x_at (x_k M) pc = some (i, pc', t)) (hv : x_un i x = some v) (kk : x_W G M Z N cells slots pc' L (v :: st)) : x_W G M Z N cells slots pc L (x :: st) := by
  intro p e s m args below meth c ad nb H locs ls B hR hn he hS hl hvs
  have hx := B.1
  have hb := B.2.1
  have hok := B.2.2.2.2.2.2.2.2.2.2.2.2
  have hvs2 := (List.forall_mem_cons.mp hvs).2
  unfold x_un at hv
  split at hv
  · cases hv
    obtain ⟨d1, e1⟩ := x_decn hok hd (n := 0) rfl
    subst e1
    exact lv_i2l hx hb d1 rfl (kk p e s m args below meth c ad nb H locs ls B hR hn he hS hl (List.forall_mem_cons.mpr ⟨trivial, hvs2⟩))
  · cases hv
    obtain ⟨d1, e1⟩ := x_decn hok hd (n := 0) rfl
    subst e1
    exact lv_l2i hx hb d1 rfl (kk p e s m args below meth c ad nb H locs ls B hR hn he hS hl (List.forall_mem_cons.mpr ⟨trivial, hvs2⟩))
  · cases hv
    obtain ⟨d1, e1⟩ := x_decn hok hd (n := 0) rfl
    subst e1
    exact lv_i2b hx hb d1 rfl (kk p e s m args below meth c ad nb H locs ls B hR hn he hS hl (List.forall_mem_cons.mpr ⟨trivial, hvs2⟩))
  · cases hv
    obtain ⟨d1, e1⟩ := x_decn hok hd (n := 0) rfl
    subst e1
    exact lv_i2c hx hb d1 rfl (kk p e s m args below meth c ad nb H locs ls B hR hn he hS hl (List.forall_mem_cons.mpr ⟨trivial, hvs2⟩))
  · cases hv
theorem X_idiv {x y : Int32} (hd : x_at (x_k M) pc = some (.idiv, pc', t)) (hy : ¬ y = 0) (kk : x_W G M Z N cells slots pc' L (.int (x / y) :: st)) : x_W G M Z N cells slots pc L (.int y :: .int x :: st) := by
  intro p e s m args below meth c ad nb H locs ls B hR hn he hS hl hvs
  obtain ⟨d1, e1⟩ := x_decn B.2.2.2.2.2.2.2.2.2.2.2.2 hd (n := 0) rfl
  subst e1
  have hvs2 := (List.forall_mem_cons.mp (List.forall_mem_cons.mp hvs).2).2
  exact lv_idiv B.1 B.2.1 d1 hy (kk p e s m args below meth c ad nb H locs ls B hR hn he hS hl (List.forall_mem_cons.mpr ⟨trivial, hvs2⟩))
theorem X_irem {x y : Int32} (hd : x_at (x_k M) pc = some (.irem, pc', t)) (hy : ¬ y = 0) (kk : x_W G M Z N cells slots pc' L (.int (x - x / y * y) :: st)) : x_W G M Z N cells slots pc L (.int y :: .int x :: st) := by
  intro p e s m args below meth c ad nb H locs ls B hR hn he hS hl hvs
  obtain ⟨d1, e1⟩ := x_decn B.2.2.2.2.2.2.2.2.2.2.2.2 hd (n := 0) rfl
  subst e1
  have hvs2 := (List.forall_mem_cons.mp (List.forall_mem_cons.mp hvs).2).2
  exact lv_irem B.1 B.2.1 d1 hy (kk p e s m args below meth c ad nb H locs ls B hR hn he hS hl (List.forall_mem_cons.mpr ⟨trivial, hvs2⟩))
theorem X_dup {v : Value} (hd : x_at (x_k M) pc = some (.dup, pc', t)) (hc : v.category = 1) (kk : x_W G M Z N cells slots pc' L (v :: v :: st)) : x_W G M Z N cells slots pc L (v :: st) := by
  intro p e s m args below meth c ad nb H locs ls B hR hn he hS hl hvs
  obtain ⟨d1, e1⟩ := x_decn B.2.2.2.2.2.2.2.2.2.2.2.2 hd (n := 0) rfl
  subst e1
  exact lv_dup B.1 B.2.1 d1 (by rw [x_tr_cat]; exact hc) (kk p e s m args below meth c ad nb H locs ls B hR hn he hS hl (List.forall_mem_cons.mpr ⟨hvs v List.mem_cons_self, hvs⟩))
theorem X_pop {v : Value} (hd : x_at (x_k M) pc = some (.pop, pc', t)) (hc : v.category = 1) (kk : x_W G M Z N cells slots pc' L st) : x_W G M Z N cells slots pc L (v :: st) := by
  intro p e s m args below meth c ad nb H locs ls B hR hn he hS hl hvs
  obtain ⟨d1, e1⟩ := x_decn B.2.2.2.2.2.2.2.2.2.2.2.2 hd (n := 0) rfl
  subst e1
  exact lv_pop B.1 B.2.1 d1 (by rw [x_tr_cat]; exact hc) (kk p e s m args below meth c ad nb H locs ls B hR hn he hS hl (List.forall_mem_cons.mp hvs).2)
theorem X_dup2 {v w : Value} (hd : x_at (x_k M) pc = some (.dup2, pc', t)) (hc : v.category = 1) (hc2 : w.category = 1) (kk : x_W G M Z N cells slots pc' L (v :: w :: v :: w :: st)) : x_W G M Z N cells slots pc L (v :: w :: st) := by
  intro p e s m args below meth c ad nb H locs ls B hR hn he hS hl hvs
  obtain ⟨d1, e1⟩ := x_decn B.2.2.2.2.2.2.2.2.2.2.2.2 hd (n := 0) rfl
  subst e1
  exact lv_dup2_11 B.1 B.2.1 d1 (by rw [x_tr_cat]; exact hc) (by rw [x_tr_cat]; exact hc2) (kk p e s m args below meth c ad nb H locs ls B hR hn he hS hl (List.forall_mem_cons.mpr ⟨hvs v List.mem_cons_self, List.forall_mem_cons.mpr ⟨hvs w (List.mem_cons_of_mem _ List.mem_cons_self), hvs⟩⟩))
theorem X_iinc {k : Nat} {n : Int} {x : Int32} (hd : x_at (x_k M) pc = some (.iinc k n, pc', t)) (hk : x_loc L k = some (.int x)) (hL : x_put1 (.int (x + Int32.ofInt n)) k L = some L') (kk : x_W G M Z N cells slots pc' L' st) : x_W G M Z N cells slots pc L st := by
  intro p e s m args below meth c ad nb H locs ls B hR hn he hS hl hvs
  obtain ⟨d1, e1⟩ := x_decn B.2.2.2.2.2.2.2.2.2.2.2.2 hd (n := 2) rfl
  subst e1
  obtain ⟨i0, hi0⟩ := List.getElem?_of_mem (x_al_mem.mpr ⟨_, hk, rfl⟩ : ((k, x_tr ad (.int x)) : Nat × Value) ∈ x_al ad L)
  have hlt : k < x_nL M := Nat.lt_of_lt_of_le (x_put1_eq hL).2.1 hl.1.2
  exact lv_iinc B.1 B.2.1 d1 (x_L_has hl) (k := i0) hi0 rfl hlt rfl (fun ls' h' => kk p e s m args below meth c ad nb H locs ls' B hR hn he hS (x_L_put1 hl (v := .int _) trivial hL h') hvs)
theorem X_goto {off : Int} (hd : x_at (x_k M) pc = some (.goto off, pc', t)) (kk : x_W G M Z N cells slots t L st) : x_W G M Z N cells slots pc L st := by
  intro p e s m args below meth c ad nb H locs ls B hR hn he hS hl hvs
  have hok := B.2.2.2.2.2.2.2.2.2.2.2.2
  obtain ⟨d1, e1⟩ := x_decn hok hd (n := 2) rfl
  exact lv_goto B.1 B.2.1 d1 ((x_dec hok hd).2.2.2 _ rfl) (kk p e s m args below meth c ad nb H locs ls B hR hn he hS hl hvs)
theorem X_if_eq {x : Int32} {off : Int} (hd : x_at (x_k M) pc = some (.ifCond .eq off, pc', t)) (kt : x = 0 → x_W G M Z N cells slots t L st) (kf : ¬ (x = 0) → x_W G M Z N cells slots pc' L st) : x_W G M Z N cells slots pc L (.int x :: st) := by
  intro p e s m args below meth c ad nb H locs ls B hR hn he hS hl hvs
  have hok := B.2.2.2.2.2.2.2.2.2.2.2.2
  obtain ⟨d1, e1⟩ := x_decn hok hd (n := 2) rfl
  subst e1
  have hv := (List.forall_mem_cons.mp hvs).2
  exact lv_if_eq B.1 B.2.1 d1 ((x_dec hok hd).2.2.2 _ rfl) (fun h => kt h p e s m args below meth c ad nb H locs ls B hR hn he hS hl hv) (fun h => kf h p e s m args below meth c ad nb H locs ls B hR hn he hS hl hv)
theorem X_icmp_eq {x y : Int32} {off : Int} (hd : x_at (x_k M) pc = some (.if_icmp .eq off, pc', t)) (kt : x = y → x_W G M Z N cells slots t L st) (kf : ¬ (x = y) → x_W G M Z N cells slots pc' L st) : x_W G M Z N cells slots pc L (.int y :: .int x :: st) := by
  intro p e s m args below meth c ad nb H locs ls B hR hn he hS hl hvs
  have hok := B.2.2.2.2.2.2.2.2.2.2.2.2
  obtain ⟨d1, e1⟩ := x_decn hok hd (n := 2) rfl
  subst e1
  have hv := (List.forall_mem_cons.mp (List.forall_mem_cons.mp hvs).2).2
  exact lv_icmp_eq B.1 B.2.1 d1 ((x_dec hok hd).2.2.2 _ rfl) (fun h => kt h p e s m args below meth c ad nb H locs ls B hR hn he hS hl hv) (fun h => kf h p e s m args below meth c ad nb H locs ls B hR hn he hS hl hv)
theorem X_if_ne {x : Int32} {off : Int} (hd : x_at (x_k M) pc = some (.ifCond .ne off, pc', t)) (kt : ¬ x = 0 → x_W G M Z N cells slots t L st) (kf : x = 0 → x_W G M Z N cells slots pc' L st) : x_W G M Z N cells slots pc L (.int x :: st) := by
  intro p e s m args below meth c ad nb H locs ls B hR hn he hS hl hvs
  have hok := B.2.2.2.2.2.2.2.2.2.2.2.2
  obtain ⟨d1, e1⟩ := x_decn hok hd (n := 2) rfl
  subst e1
  have hv := (List.forall_mem_cons.mp hvs).2
  exact lv_if_ne B.1 B.2.1 d1 ((x_dec hok hd).2.2.2 _ rfl) (fun h => kt h p e s m args below meth c ad nb H locs ls B hR hn he hS hl hv) (fun h => kf h p e s m args below meth c ad nb H locs ls B hR hn he hS hl hv)
theorem X_icmp_ne {x y : Int32} {off : Int} (hd : x_at (x_k M) pc = some (.if_icmp .ne off, pc', t)) (kt : ¬ x = y → x_W G M Z N cells slots t L st) (kf : x = y → x_W G M Z N cells slots pc' L st) : x_W G M Z N cells slots pc L (.int y :: .int x :: st) := by
  intro p e s m args below meth c ad nb H locs ls B hR hn he hS hl hvs
  have hok := B.2.2.2.2.2.2.2.2.2.2.2.2
  obtain ⟨d1, e1⟩ := x_decn hok hd (n := 2) rfl
  subst e1
  have hv := (List.forall_mem_cons.mp (List.forall_mem_cons.mp hvs).2).2
  exact lv_icmp_ne B.1 B.2.1 d1 ((x_dec hok hd).2.2.2 _ rfl) (fun h => kt h p e s m args below meth c ad nb H locs ls B hR hn he hS hl hv) (fun h => kf h p e s m args below meth c ad nb H locs ls B hR hn he hS hl hv)
theorem X_if_lt {x : Int32} {off : Int} (hd : x_at (x_k M) pc = some (.ifCond .lt off, pc', t)) (kt : x < 0 → x_W G M Z N cells slots t L st) (kf : ¬ (x < 0) → x_W G M Z N cells slots pc' L st) : x_W G M Z N cells slots pc L (.int x :: st) := by
  intro p e s m args below meth c ad nb H locs ls B hR hn he hS hl hvs
  have hok := B.2.2.2.2.2.2.2.2.2.2.2.2
  obtain ⟨d1, e1⟩ := x_decn hok hd (n := 2) rfl
  subst e1
  have hv := (List.forall_mem_cons.mp hvs).2
  exact lv_if_lt B.1 B.2.1 d1 ((x_dec hok hd).2.2.2 _ rfl) (fun h => kt h p e s m args below meth c ad nb H locs ls B hR hn he hS hl hv) (fun h => kf h p e s m args below meth c ad nb H locs ls B hR hn he hS hl hv)
theorem X_icmp_lt {x y : Int32} {off : Int} (hd : x_at (x_k M) pc = some (.if_icmp .lt off, pc', t)) (kt : x < y → x_W G M Z N cells slots t L st) (kf : ¬ (x < y) → x_W G M Z N cells slots pc' L st) : x_W G M Z N cells slots pc L (.int y :: .int x :: st) := by
  intro p e s m args below meth c ad nb H locs ls B hR hn he hS hl hvs
  have hok := B.2.2.2.2.2.2.2.2.2.2.2.2
  obtain ⟨d1, e1⟩ := x_decn hok hd (n := 2) rfl
  subst e1
  have hv := (List.forall_mem_cons.mp (List.forall_mem_cons.mp hvs).2).2
  exact lv_icmp_lt B.1 B.2.1 d1 ((x_dec hok hd).2.2.2 _ rfl) (fun h => kt h p e s m args below meth c ad nb H locs ls B hR hn he hS hl hv) (fun h => kf h p e s m args below meth c ad nb H locs ls B hR hn he hS hl hv)
theorem X_if_ge {x : Int32} {off : Int} (hd : x_at (x_k M) pc = some (.ifCond .ge off, pc', t)) (kt : 0 ≤ x → x_W G M Z N cells slots t L st) (kf : ¬ (0 ≤ x) → x_W G M Z N cells slots pc' L st) : x_W G M Z N cells slots pc L (.int x :: st) := by
  intro p e s m args below meth c ad nb H locs ls B hR hn he hS hl hvs
  have hok := B.2.2.2.2.2.2.2.2.2.2.2.2
  obtain ⟨d1, e1⟩ := x_decn hok hd (n := 2) rfl
  subst e1
  have hv := (List.forall_mem_cons.mp hvs).2
  exact lv_if_ge B.1 B.2.1 d1 ((x_dec hok hd).2.2.2 _ rfl) (fun h => kt h p e s m args below meth c ad nb H locs ls B hR hn he hS hl hv) (fun h => kf h p e s m args below meth c ad nb H locs ls B hR hn he hS hl hv)
theorem X_icmp_ge {x y : Int32} {off : Int} (hd : x_at (x_k M) pc = some (.if_icmp .ge off, pc', t)) (kt : y ≤ x → x_W G M Z N cells slots t L st) (kf : ¬ (y ≤ x) → x_W G M Z N cells slots pc' L st) : x_W G M Z N cells slots pc L (.int y :: .int x :: st) := by
  intro p e s m args below meth c ad nb H locs ls B hR hn he hS hl hvs
  have hok := B.2.2.2.2.2.2.2.2.2.2.2.2
  obtain ⟨d1, e1⟩ := x_decn hok hd (n := 2) rfl
  subst e1
  have hv := (List.forall_mem_cons.mp (List.forall_mem_cons.mp hvs).2).2
  exact lv_icmp_ge B.1 B.2.1 d1 ((x_dec hok hd).2.2.2 _ rfl) (fun h => kt h p e s m args below meth c ad nb H locs ls B hR hn he hS hl hv) (fun h => kf h p e s m args below meth c ad nb H locs ls B hR hn he hS hl hv)
theorem X_if_gt {x : Int32} {off : Int} (hd : x_at (x_k M) pc = some (.ifCond .gt off, pc', t)) (kt : 0 < x → x_W G M Z N cells slots t L st) (kf : ¬ (0 < x) → x_W G M Z N cells slots pc' L st) : x_W G M Z N cells slots pc L (.int x :: st) := by
  intro p e s m args below meth c ad nb H locs ls B hR hn he hS hl hvs
  have hok := B.2.2.2.2.2.2.2.2.2.2.2.2
  obtain ⟨d1, e1⟩ := x_decn hok hd (n := 2) rfl
  subst e1
  have hv := (List.forall_mem_cons.mp hvs).2
  exact lv_if_gt B.1 B.2.1 d1 ((x_dec hok hd).2.2.2 _ rfl) (fun h => kt h p e s m args below meth c ad nb H locs ls B hR hn he hS hl hv) (fun h => kf h p e s m args below meth c ad nb H locs ls B hR hn he hS hl hv)
theorem X_icmp_gt {x y : Int32} {off : Int} (hd : x_at (x_k M) pc = some (.if_icmp .gt off, pc', t)) (kt : y < x → x_W G M Z N cells slots t L st) (kf : ¬ (y < x) → x_W G M Z N cells slots pc' L st) : x_W G M Z N cells slots pc L (.int y :: .int x :: st) := by
  intro p e s m args below meth c ad nb H locs ls B hR hn he hS hl hvs
  have hok := B.2.2.2.2.2.2.2.2.2.2.2.2
  obtain ⟨d1, e1⟩ := x_decn hok hd (n := 2) rfl
  subst e1
  have hv := (List.forall_mem_cons.mp (List.forall_mem_cons.mp hvs).2).2
  exact lv_icmp_gt B.1 B.2.1 d1 ((x_dec hok hd).2.2.2 _ rfl) (fun h => kt h p e s m args below meth c ad nb H locs ls B hR hn he hS hl hv) (fun h => kf h p e s m args below meth c ad nb H locs ls B hR hn he hS hl hv)
theorem X_if_le {x : Int32} {off : Int} (hd : x_at (x_k M) pc = some (.ifCond .le off, pc', t)) (kt : x ≤ 0 → x_W G M Z N cells slots t L st) (kf : ¬ (x ≤ 0) → x_W G M Z N cells slots pc' L st) : x_W G M Z N cells slots pc L (.int x :: st) := by
  intro p e s m args below meth c ad nb H locs ls B hR hn he hS hl hvs
  have hok := B.2.2.2.2.2.2.2.2.2.2.2.2
  obtain ⟨d1, e1⟩ := x_decn hok hd (n := 2) rfl
  subst e1
  have hv := (List.forall_mem_cons.mp hvs).2
  exact lv_if_le B.1 B.2.1 d1 ((x_dec hok hd).2.2.2 _ rfl) (fun h => kt h p e s m args below meth c ad nb H locs ls B hR hn he hS hl hv) (fun h => kf h p e s m args below meth c ad nb H locs ls B hR hn he hS hl hv)
theorem X_icmp_le {x y : Int32} {off : Int} (hd : x_at (x_k M) pc = some (.if_icmp .le off, pc', t)) (kt : x ≤ y → x_W G M Z N cells slots t L st) (kf : ¬ (x ≤ y) → x_W G M Z N cells slots pc' L st) : x_W G M Z N cells slots pc L (.int y :: .int x :: st) := by
  intro p e s m args below meth c ad nb H locs ls B hR hn he hS hl hvs
  have hok := B.2.2.2.2.2.2.2.2.2.2.2.2
  obtain ⟨d1, e1⟩ := x_decn hok hd (n := 2) rfl
  subst e1
  have hv := (List.forall_mem_cons.mp (List.forall_mem_cons.mp hvs).2).2
  exact lv_icmp_le B.1 B.2.1 d1 ((x_dec hok hd).2.2.2 _ rfl) (fun h => kt h p e s m args below meth c ad nb H locs ls B hR hn he hS hl hv) (fun h => kf h p e s m args below meth c ad nb H locs ls B hR hn he hS hl hv)
theorem X_ifnonnull {x : Nat} {off : Int} (hd : x_at (x_k M) pc = some (.ifnonnull off, pc', t)) (kk : x_W G M Z N cells slots t L st) : x_W G M Z N cells slots pc L (.ref x :: st) := by
  intro p e s m args below meth c ad nb H locs ls B hR hn he hS hl hvs
  have hok := B.2.2.2.2.2.2.2.2.2.2.2.2
  obtain ⟨d1, e1⟩ := x_decn hok hd (n := 2) rfl
  subst e1
  exact lv_ifnonnull B.1 B.2.1 d1 ((x_dec hok hd).2.2.2 _ rfl) (kk p e s m args below meth c ad nb H locs ls B hR hn he hS hl (List.forall_mem_cons.mp hvs).2)
theorem X_ifnull {x : Nat} {off : Int} (hd : x_at (x_k M) pc = some (.ifnull off, pc', t)) (kk : x_W G M Z N cells slots pc' L st) : x_W G M Z N cells slots pc L (.ref x :: st) := by
  intro p e s m args below meth c ad nb H locs ls B hR hn he hS hl hvs
  have hok := B.2.2.2.2.2.2.2.2.2.2.2.2
  obtain ⟨d1, e1⟩ := x_decn hok hd (n := 2) rfl
  subst e1
  exact lv_ifnull B.1 B.2.1 d1 (kk p e s m args below meth c ad nb H locs ls B hR hn he hS hl (List.forall_mem_cons.mp hvs).2)
theorem X_ifnullN {off : Int} (hd : x_at (x_k M) pc = some (.ifnull off, pc', t)) (kk : x_W G M Z N cells slots t L st) : x_W G M Z N cells slots pc L (.null :: st) := by
  intro p e s m args below meth c ad nb H locs ls B hR hn he hS hl hvs
  have hok := B.2.2.2.2.2.2.2.2.2.2.2.2
  obtain ⟨d1, e1⟩ := x_decn hok hd (n := 2) rfl
  subst e1
  exact lv_ifnullN B.1 B.2.1 d1 ((x_dec hok hd).2.2.2 _ rfl) (kk p e s m args below meth c ad nb H locs ls B hR hn he hS hl (List.forall_mem_cons.mp hvs).2)
theorem X_ifnonnullN {off : Int} (hd : x_at (x_k M) pc = some (.ifnonnull off, pc', t)) (kk : x_W G M Z N cells slots pc' L st) : x_W G M Z N cells slots pc L (.null :: st) := by
  intro p e s m args below meth c ad nb H locs ls B hR hn he hS hl hvs
  have hok := B.2.2.2.2.2.2.2.2.2.2.2.2
  obtain ⟨d1, e1⟩ := x_decn hok hd (n := 2) rfl
  subst e1
  exact lv_ifnonnullN B.1 B.2.1 d1 (kk p e s m args below meth c ad nb H locs ls B hR hn he hS hl (List.forall_mem_cons.mp hvs).2)
theorem X_tabOut {dflt lo hi : Int} {offs : Array Int} {x : Int32} (tgt : Nat) (hd : x_at (x_k M) pc = some (.tableswitch dflt lo hi offs, pc', t)) (h : x.toInt < lo ∨ hi < x.toInt) (ht : (pc : Int) + dflt = (tgt : Int)) (kk : x_W G M Z N cells slots tgt L st) : x_W G M Z N cells slots pc L (.int x :: st) := by
  intro p e s m args below meth c ad nb H locs ls B hR hn he hS hl hvs
  exact lv_tableOut B.1 B.2.1 (x_dec B.2.2.2.2.2.2.2.2.2.2.2.2 hd).1 h ht (kk p e s m args below meth c ad nb H locs ls B hR hn he hS hl (List.forall_mem_cons.mp hvs).2)
theorem X_tabIn {dflt lo hi : Int} {offs : Array Int} {x : Int32} {off : Int} (tgt : Nat) (hd : x_at (x_k M) pc = some (.tableswitch dflt lo hi offs, pc', t)) (h1 : ¬ x.toInt < lo) (h2 : ¬ hi < x.toInt) (ho : offs[(x.toInt - lo).toNat]? = some off) (ht : (pc : Int) + off = (tgt : Int)) (kk : x_W G M Z N cells slots tgt L st) : x_W G M Z N cells slots pc L (.int x :: st) := by
  intro p e s m args below meth c ad nb H locs ls B hR hn he hS hl hvs
  exact lv_tableIn B.1 B.2.1 (x_dec B.2.2.2.2.2.2.2.2.2.2.2.2 hd).1 h1 h2 ho ht (kk p e s m args below meth c ad nb H locs ls B hR hn he hS hl (List.forall_mem_cons.mp hvs).2)
theorem X_lookup {dflt : Int} {ps : Array (Int × Int)} {x : Int32} {off : Int} (tgt : Nat) (hd : x_at (x_k M) pc = some (.lookupswitch dflt ps, pc', t)) (hp : (ps.toList.zip (ps.toList.drop 1)).all (fun (a, next) => a.1 < next.1) = true) (ho : Op.lookupswitch.offset ps.toList dflt x.toInt = off) (ht : (pc : Int) + off = (tgt : Int)) (kk : x_W G M Z N cells slots tgt L st) : x_W G M Z N cells slots pc L (.int x :: st) := by
  intro p e s m args below meth c ad nb H locs ls B hR hn he hS hl hvs
  exact lv_lookup B.1 B.2.1 (x_dec B.2.2.2.2.2.2.2.2.2.2.2.2 hd).1 hp ho ht (kk p e s m args below meth c ad nb H locs ls B hR hn he hS hl (List.forall_mem_cons.mp hvs).2)
/-- fewer of the locals are remembered -/
def x_sub : List (Option Value) → List (Option Value) → Prop
  | [], _ => True
  | none :: t, _ :: u => x_sub t u
  | some v :: t, some w :: u => v = w ∧ x_sub t u
  | _ :: _, _ => False
theorem x_sub_get : ∀ {L L' : List (Option Value)}, x_sub L' L → L'.length ≤ L.length ∧ ∀ (i : Nat) (v : Value), L'[i]? = some (some v) → L[i]? = some (some v)
  | L, [], _ => ⟨Nat.zero_le _, fun i v h => by simp at h⟩
  | [], a :: t, h => by cases a <;> exact absurd h (by simp [x_sub])
  | b :: u, none :: t, h => by
    obtain ⟨h1, h2⟩ := x_sub_get (L := u) (L' := t) h
    refine ⟨by simpa using h1, fun i v hi => ?_⟩
    cases i with
    | zero => simp at hi
    | succ i => simpa using h2 i v (by simpa using hi)
  | none :: u, some a :: t, h => absurd h (by simp [x_sub])
  | some b :: u, some a :: t, h => by
    obtain ⟨h1, h2⟩ := x_sub_get (L := u) (L' := t) h.2
    refine ⟨by simpa using h1, fun i v hi => ?_⟩
    cases i with
    | zero =>
      simp at hi ⊢
      rw [← h.1, hi]
    | succ i => simpa using h2 i v (by simpa using hi)
theorem X_loc (hs : x_sub L' L) (kk : x_W G M Z N cells slots pc L' st) : x_W G M Z N cells slots pc L st := by
  intro p e s m args below meth c ad nb H locs ls B hR hn he hS hl hvs
  obtain ⟨h1, h2⟩ := x_sub_get hs
  exact kk p e s m args below meth c ad nb H locs ls B hR hn he hS ⟨⟨hl.1.1, Nat.le_trans h1 hl.1.2⟩, hl.2.1, fun i v hi => hl.2.2 i v (h2 i v hi)⟩ hvs
/-- fewer cells are remembered -/
theorem X_cells {N' : XH} (hs : ∀ k c, N' k = some c → N k = some c) (kk : x_W G M Z N' cells slots pc L st) : x_W G M Z N cells slots pc L st := by
  intro p e s m args below meth c ad nb H locs ls B hR hn he hS hl hvs
  exact kk p e s m args below meth c ad nb H locs ls B (x_R_sub hR hs) hn he hS hl hvs
theorem X_room {cells' slots' : Nat} (h1 : cells ≤ cells') (h2 : slots ≤ slots') (kk : x_W G M Z N cells' slots' pc L st) : x_W G M Z N cells slots pc L st := by
  intro p e s m args below meth c ad nb H locs ls B hR hn he hS hl hvs
  exact W.widen h1 h2 (kk p e s m args below meth c ad nb H locs ls B hR hn he hS hl hvs)
theorem X_top {x : Int32} (kk : ∀ y : Int32, y = x → x_W G M Z N cells slots pc L (.int y :: st)) : x_W G M Z N cells slots pc L (.int x :: st) := kk x rfl
end XR1
