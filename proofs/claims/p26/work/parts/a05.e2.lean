/-! ===== the law's own methods: analyze (wip/p26/gen_e2.py) ===== -/
section ELAW
variable {G : XE} {M : XMI} {Z : XZ} {N : XH} {cells slots pc pc' t : Nat} {L : List (Option Value)} {st : List Value} {F A : Nat → Int32}
theorem e_V_put {k : Nat} {v : Int32} : updV (e_V F) (k + 2) (.int v) = e_V (upd F (k + 2) v) := by
  funext j
  match j with
  | 0 => rfl
  | 1 => rfl
  | j + 2 =>
    show updV (e_V F) (k + 2) (.int v) (j + 2) = .int (upd F (k + 2) v (j + 2))
    unfold updV upd
    by_cases h : j + 2 = k + 2
    · rw [if_pos h, if_pos h]
    · rw [if_neg h, if_neg h]
      rfl
/-- the law's object is there: its cells, beside the others -/
abbrev e_N (N : XH) (F : Nat → Int32) : XH := x_set N 275 (e_O F)
theorem e_N_self (h : N 275 = some (e_O F)) : N = e_N N F := by
  funext j
  unfold e_N x_set
  by_cases hj : j = 275
  · rw [if_pos hj, hj]; exact h
  · rw [if_neg hj]
theorem X_eput {idx k : Nat} {v : Int32} (hF : x_FL (x_own M) idx 11 (k + 2) .int false) (hd : x_at (x_k M) pc = some (.putfield idx, pc', t)) (kk : x_W G M Z (e_N N (upd F (k + 2) v)) cells slots pc' L st) : x_W G M Z (e_N N F) cells slots pc L (.int v :: .ref 275 :: st) :=
  X_put hF hd x_set_eq ⟨rfl, rfl⟩ (X_heap (by rw [e_V_put]; exact x_set_set) kk)
theorem X_eget {idx k : Nat} (hF : x_FL (x_own M) idx 11 (k + 2) .int false) (hd : x_at (x_k M) pc = some (.getfield idx, pc', t)) (kk : x_W G M Z (e_N N F) cells slots pc' L (.int (F (k + 2)) :: st)) : x_W G M Z (e_N N F) cells slots pc L (.ref 275 :: st) := X_get hF hd x_set_eq rfl kk
theorem X_eget0 {idx : Nat} (hF : x_FL (x_own M) idx 11 0 (.array .int) true) (hd : x_at (x_k M) pc = some (.getfield idx, pc', t)) (kk : x_W G M Z (e_N N F) cells slots pc' L (.ref 276 :: st)) : x_W G M Z (e_N N F) cells slots pc L (.ref 275 :: st) := X_get hF hd x_set_eq rfl kk
theorem X_eald {a k : Nat} {j : Int32} (ha : a ≠ 275) (hA : N a = some (e_A A)) (hj : j = nI k) (hk : k < 40) (hd : x_at (x_k M) pc = some (.iaload, pc', t)) (kk : x_W G M Z (e_N N F) cells slots pc' L (.int (A k) :: st)) : x_W G M Z (e_N N F) cells slots pc L (.int j :: .ref a :: st) := by
  have ej : j.toNatClampNeg = k := by rw [hj]; exact nI_clamp (by omega)
  exact X_iald hd ((x_set_ne ha).trans hA) (by rw [hj]; exact vp_in_nI hk (by omega)) (v := .int (A k)) (by rw [ej]) kk
end ELAW
def e_new (A : Nat → Int32) (l : Nat) : Nat → Bool
  | 0 => true
  | m + 1 => e_new A l m && !decide (A m = A l)
def e_unl (A : Nat → Int32) : Nat → Int32
  | 0 => 0
  | l + 1 => e_unl A l + (bif e_new A l l then 1 else 0)
def e_lst (F A : Nat → Int32) : Nat → Int32
  | 0 => if F 2 = 0 then 0 else 9999
  | l + 1 => x_min (e_lst F A l) (A l)
def e_grt (A : Nat → Int32) : Nat → Int32
  | 0 => 0
  | l + 1 => x_max (e_grt A l) (A l)
/-- the statistics of the first k values -/
def e_ana (F A : Nat → Int32) (k : Nat) : Nat → Int32 := upd (upd (upd (upd F 3 (F 2)) 4 (e_unl A k)) 5 (e_lst F A k)) 6 (e_grt A k)
theorem e_ana_s {F A : Nat → Int32} {k : Nat} : upd (upd (upd (e_ana F A k) 4 (e_ana F A k 4 + (bif e_new A k k then 1 else 0))) 5 (x_min (e_ana F A k 5) (A k))) 6 (x_max (e_ana F A k 6) (A k)) = e_ana F A (k + 1) := by
  have h4 : e_ana F A k 4 = e_unl A k := rfl
  have h5 : e_ana F A k 5 = e_lst F A k := rfl
  have h6 : e_ana F A k 6 = e_grt A k := rfl
  rw [h4, h5, h6]
  funext i
  unfold e_ana
  by_cases g6 : i = 6
  · rw [g6, updI_eq, updI_eq]; rfl
  · rw [updI_ne g6, updI_ne g6]
    by_cases g5 : i = 5
    · rw [g5, updI_eq, updI_eq]; rfl
    · rw [updI_ne g5, updI_ne g5]
      by_cases g4 : i = 4
      · rw [g4, updI_eq, updI_eq]; rfl
      · rw [updI_ne g4, updI_ne g4, updI_ne g6, updI_ne g5, updI_ne g4]
theorem b2_and {x y : Bool} : b2 x &&& b2 y = b2 (x && y) := by cases x <;> cases y <;> rfl
theorem v_ana {G : XE} (hG : x_Kn G) {N : XH} (d : Nat) {F A : Nat → Int32} {n : Nat} (hA : N 276 = some (e_A A)) (hm : F 2 = nI n) (hn : n ≤ 40) : x_M G mL_analyze (d + 1) 0 0 [.ref 275] (e_N N F) (x_RetV (e_N N (e_ana F A n))) x_noX := by
  refine X_M hG okL_analyze rfl (L := [some (.ref 275), none, none, none]) rfl (Nat.le_of_ble_eq_true rfl) (fun ad0 nb0 => ?_)
  have inner : ∀ (k : Nat), k < n → x_W G mL_analyze (x_Z G (d + 1) 0 0 ad0 nb0 (x_RetV (e_N N (e_ana F A n))) x_noX) (e_N N (e_ana F A k)) 0 0 84 [some (.ref 275), some (.int (nI k)), some (.int (b2 (e_new A k k))), some (.int (nI k))] [] → ∀ (f j : Nat), j + f = k → x_W G mL_analyze (x_Z G (d + 1) 0 0 ad0 nb0 (x_RetV (e_N N (e_ana F A n))) x_noX) (e_N N (e_ana F A k)) 0 0 50 [some (.ref 275), some (.int (nI k)), some (.int (b2 (e_new A k j))), some (.int (nI j))] [] := by
    intro k hk K f
    induction f with
    | zero =>
      intro j e0
      obtain e9 : j = k := by omega
      subst e9
      refine X_ld rfl rfl rfl rfl ?_
      refine X_ld rfl rfl rfl rfl ?_
      refine X_icmp_ge rfl (fun _ => K) (fun c => absurd (Int32.le_refl _) c)
    | succ f ih =>
      intro j e0
      refine X_ld rfl rfl rfl rfl ?_
      refine X_ld rfl rfl rfl rfl ?_
      refine X_icmp_ge rfl (fun c => absurd ((n_le rfl rfl (by omega) (by omega)).mp c) (by omega)) (fun _ => ?_)
      refine X_ld rfl rfl rfl rfl ?_
      refine X_ld rfl rfl rfl rfl ?_
      refine X_eget0 f_L_7 rfl ?_
      refine X_ld rfl rfl rfl rfl ?_
      refine X_eald (by decide) hA (k := j) rfl (by omega) rfl ?_
      refine X_ld rfl rfl rfl rfl ?_
      refine X_eget0 f_L_7 rfl ?_
      refine X_ld rfl rfl rfl rfl ?_
      refine X_eald (by decide) hA (k := k) rfl (by omega) rfl ?_
      have tail : ∀ q : Bool, q = !decide (A j = A k) → x_W G mL_analyze (x_Z G (d + 1) 0 0 ad0 nb0 (x_RetV (e_N N (e_ana F A n))) x_noX) (e_N N (e_ana F A k)) 0 0 76 [some (.ref 275), some (.int (nI k)), some (.int (b2 (e_new A k j))), some (.int (nI j))] [.int (b2 q), .int (b2 (e_new A k j))] := fun q hq => by
        refine X_bin rfl rfl ?_
        refine X_st rfl rfl rfl ?_
        refine X_iinc rfl rfl rfl ?_
        refine X_goto rfl ?_
        refine X_loc (L' := [some (.ref 275), some (.int (nI k)), some (.int (b2 (e_new A k (j + 1)))), some (.int (nI (j + 1)))]) ⟨rfl, rfl, congrArg Value.int (by rw [b2_and, hq]; rfl), congrArg Value.int (m_inc rfl).symm, trivial⟩ ?_
        exact ih (j + 1) (by omega)
      refine X_icmp_eq rfl (fun c => ?_) (fun c => ?_)
      · refine X_push (v := .int 0) rfl (by decide +kernel) ?_
        exact tail false (by rw [decide_eq_true c]; rfl)
      · refine X_push (v := .int 1) rfl (by decide +kernel) ?_
        refine X_goto rfl ?_
        exact tail true (by rw [decide_eq_false c]; rfl)
  have outer : (∀ x y : Option Value, x_W G mL_analyze (x_Z G (d + 1) 0 0 ad0 nb0 (x_RetV (e_N N (e_ana F A n))) x_noX) (e_N N (e_ana F A n)) 0 0 142 [some (.ref 275), some (.int (nI n)), x, y] []) → ∀ (f k : Nat), k + f = n → ∀ x y : Option Value, x_W G mL_analyze (x_Z G (d + 1) 0 0 ad0 nb0 (x_RetV (e_N N (e_ana F A n))) x_noX) (e_N N (e_ana F A k)) 0 0 38 [some (.ref 275), some (.int (nI k)), x, y] [] := by
    intro K f
    induction f with
    | zero =>
      intro k e0 x y
      obtain e9 : k = n := by omega
      subst e9
      refine X_ld rfl rfl rfl rfl ?_
      refine X_ld rfl rfl rfl rfl ?_
      refine X_eget (k := 0) f_L_44 rfl ?_
      refine X_icmp_ge rfl (fun _ => K x y) (fun c => absurd ((n_le (show e_ana F A k (0 + 2) = nI k from hm) rfl (by omega) (by omega)).mpr (Nat.le_refl _)) c)
    | succ f ih =>
      intro k e0 x y
      refine X_ld rfl rfl rfl rfl ?_
      refine X_ld rfl rfl rfl rfl ?_
      refine X_eget (k := 0) f_L_44 rfl ?_
      refine X_icmp_ge rfl (fun c => absurd ((n_le (show e_ana F A k (0 + 2) = nI n from hm) rfl (by omega) (by omega)).mp c) (by omega)) (fun _ => ?_)
      refine X_push (v := .int 1) rfl (by decide +kernel) ?_
      refine X_st rfl rfl rfl ?_
      refine X_push (v := .int 0) rfl (by decide +kernel) ?_
      refine X_st rfl rfl rfl ?_
      refine X_loc (L' := [some (.ref 275), some (.int (nI k)), some (.int (b2 (e_new A k 0))), some (.int (nI 0))]) ⟨rfl, rfl, rfl, rfl, trivial⟩ ?_
      refine inner k (by omega) ?_ k 0 (Nat.zero_add _)
      refine X_ld rfl rfl rfl rfl ?_
      refine X_dup rfl rfl ?_
      refine X_eget (k := 2) f_L_50 rfl ?_
      refine X_ld rfl rfl rfl rfl ?_
      have tail : ∀ q : Int32, q = (bif e_new A k k then 1 else 0) → x_W G mL_analyze (x_Z G (d + 1) 0 0 ad0 nb0 (x_RetV (e_N N (e_ana F A n))) x_noX) (e_N N (e_ana F A k)) 0 0 98 [some (.ref 275), some (.int (nI k)), some (.int (b2 (e_new A k k))), some (.int (nI k))] [.int q, .int (e_ana F A k 4), .ref 275] := fun q hq => by
        refine X_bin rfl rfl ?_
        refine X_eput (k := 2) f_L_50 rfl ?_
        refine X_ld rfl rfl rfl rfl ?_
        refine X_ld rfl rfl rfl rfl ?_
        refine X_eget (k := 3) f_L_53 rfl ?_
        refine X_ld rfl rfl rfl rfl ?_
        refine X_eget0 f_L_7 rfl ?_
        refine X_ld rfl rfl rfl rfl ?_
        refine X_eald (by decide) hA (k := k) rfl (by omega) rfl ?_
        refine X_min lmin_L rfl (by omega) (Nat.le_of_ble_eq_true rfl) (Nat.le_of_ble_eq_true rfl) (Nat.le_of_ble_eq_true rfl) ?_
        refine X_eput (k := 3) f_L_53 rfl ?_
        refine X_ld rfl rfl rfl rfl ?_
        refine X_ld rfl rfl rfl rfl ?_
        refine X_eget (k := 4) f_L_56 rfl ?_
        refine X_ld rfl rfl rfl rfl ?_
        refine X_eget0 f_L_7 rfl ?_
        refine X_ld rfl rfl rfl rfl ?_
        refine X_eald (by decide) hA (k := k) rfl (by omega) rfl ?_
        refine X_max lmax_L rfl (by omega) (Nat.le_of_ble_eq_true rfl) (Nat.le_of_ble_eq_true rfl) (Nat.le_of_ble_eq_true rfl) ?_
        refine X_eput (k := 4) f_L_56 rfl ?_
        refine X_iinc rfl rfl rfl ?_
        refine X_goto rfl ?_
        refine X_heap (N' := e_N N (e_ana F A (k + 1))) (congrArg (e_N N) (by rw [hq]; exact e_ana_s)) ?_
        refine X_loc (L' := [some (.ref 275), some (.int (nI (k + 1))), some (.int (b2 (e_new A k k))), some (.int (nI k))]) ⟨rfl, congrArg Value.int (m_inc rfl).symm, rfl, rfl, trivial⟩ ?_
        exact ih (k + 1) (by omega) _ _
      refine X_if_eq rfl (fun c => ?_) (fun c => ?_)
      · refine X_push (v := .int 0) rfl (by decide +kernel) ?_
        exact tail 0 (by rw [b2_0 c]; rfl)
      · refine X_push (v := .int 1) rfl (by decide +kernel) ?_
        refine X_goto rfl ?_
        exact tail 1 (by rw [b2_1 c]; rfl)
  refine X_ld rfl rfl rfl rfl ?_
  refine X_ld rfl rfl rfl rfl ?_
  refine X_eget (k := 0) f_L_44 rfl ?_
  refine X_eput (k := 1) f_L_47 rfl ?_
  refine X_ld rfl rfl rfl rfl ?_
  refine X_push (v := .int 0) rfl (by decide +kernel) ?_
  refine X_eput (k := 2) f_L_50 rfl ?_
  refine X_ld rfl rfl rfl rfl ?_
  refine X_ld rfl rfl rfl rfl ?_
  refine X_eget (k := 0) f_L_44 rfl ?_
  have tail : ∀ q : Int32, q = (if F 2 = 0 then 0 else 9999) → x_W G mL_analyze (x_Z G (d + 1) 0 0 ad0 nb0 (x_RetV (e_N N (e_ana F A n))) x_noX) (e_N N (upd (upd F 3 (F 2)) 4 0)) 0 0 28 [some (.ref 275), none, none, none] [.int q, .ref 275] := fun q hq => by
    refine X_eput (k := 3) f_L_53 rfl ?_
    refine X_ld rfl rfl rfl rfl ?_
    refine X_push (v := .int 0) rfl (by decide +kernel) ?_
    refine X_eput (k := 4) f_L_56 rfl ?_
    refine X_push (v := .int 0) rfl (by decide +kernel) ?_
    refine X_st rfl rfl rfl ?_
    refine X_heap (N' := e_N N (e_ana F A 0)) (by rw [hq]; rfl) ?_
    refine X_loc (L' := [some (.ref 275), some (.int (nI 0)), none, none]) ⟨rfl, rfl, trivial⟩ ?_
    exact outer (fun x y => X_vret rfl rfl ⟨rfl, rfl⟩ (Nat.le_of_ble_eq_true rfl) (Nat.le_of_ble_eq_true rfl)) n 0 (Nat.zero_add _) none none
  refine X_if_ne rfl (fun c => ?_) (fun c => ?_)
  · refine X_push (v := .int 9999) rfl (by decide +kernel) ?_
    exact tail 9999 (if_neg c).symm
  · refine X_push (v := .int 0) rfl (by decide +kernel) ?_
    refine X_goto rfl ?_
    exact tail 0 (if_pos c).symm
