/-! ===== the law's run, isAlike (wip/p26/gen_g1.py) ===== -/
section ELAW2
variable {G : XE} {M : XMI} {Z : XZ} {N : XH} {cells slots pc pc' t : Nat} {L : List (Option Value)} {st : List Value} {F : Nat → Int32}
theorem X_eget1 {idx : Nat} (hF : x_FL (x_own M) idx 11 1 (.array .int) true) (hd : x_at (x_k M) pc = some (.getfield idx, pc', t)) (kk : x_W G M Z (e_N N F) cells slots pc' L (.ref 277 :: st)) : x_W G M Z (e_N N F) cells slots pc L (.ref 275 :: st) := X_get hF hd x_set_eq rfl kk
end ELAW2
theorem e_costOf_k {F F' : Nat → Int32} {p x : Int32} (h : ∀ k, k < 16 → F' k = F k) : e_costOf F' p x = e_costOf F p x := by
  unfold e_costOf e_cost
  rw [h 3 (by decide), h 8 (by decide), h 9 (by decide), h 10 (by decide), h 15 (by decide)]
theorem e_costOf_k2 {F F' : Nat → Int32} {p x : Int32} (h3 : F' 3 = F 3) (h8 : F' 8 = F 8) (h9 : F' 9 = F 9) (h10 : F' 10 = F 10) (h15 : F' 15 = F 15) : e_costOf F' p x = e_costOf F p x := by
  unfold e_costOf e_cost
  rw [h3, h8, h9, h10, h15]
theorem x_max1_ne (x : Int32) : ¬ x_max 1 x = 0 := by
  unfold x_max
  by_cases c : (1 : Int32) < x
  · rw [if_pos c]
    intro q
    rw [q] at c
    exact absurd c (by decide)
  · rw [if_neg c]; decide
theorem v_run {G : XE} (hG : x_Kn G) {N : XH} (d : Nat) {F A : Nat → Int32} {n : Nat} {v : Int32} {l : Bool} (hA : N 276 = some (e_A A)) (hm : F 2 = nI n) (hn : n ≤ 40) (hk : e_kp F) (h4 : ¬ F 3 = 0 → ¬ F 4 = 0 ∧ ¬ F 6 - F 5 + 1 = 0) : x_M G mL_run (d + 4) 0 0 [.ref 275, .int v, .int (b2 l)] (e_N N F) (x_RetV (e_N N (e_run F A v l (e_est F v true l) (e_est F v false l) n))) x_noX := by
  refine X_M hG okL_run rfl (L := [some (.ref 275), some (.int v), some (.int (b2 l)), none, none, none, none, none, none, none]) rfl (Nat.le_of_ble_eq_true rfl) (fun ad0 nb0 => ?_)
  have hp2 := e_pl_2 (F := F) (s := (e_est F v true l)) (g := (e_est F v false l)) hk
  generalize hpp : e_pl F (e_est F v true l) (e_est F v false l) = p at hp2
  have fin : ∀ q7 : Int32, q7 = (if e_turn F (e_est F v false l) then 1 else 0) → x_W G mL_run (x_Z G (d + 4) 0 0 ad0 nb0 (x_RetV (e_N N (e_run F A v l (e_est F v true l) (e_est F v false l) n))) x_noX) (e_N N (upd (e_r2 F (e_est F v true l) (e_est F v false l)) 12 (F 12 + 1))) 0 0 228 [some (.ref 275), some (.int v), some (.int (b2 l)), some (.int (e_est F v true l)), some (.int (e_est F v false l)), some (.int (e_used F (e_est F v true l) (e_est F v false l))), some (.int p), some (.int q7), some (.int (e_met A v l p n)), some (.int (nI n))] [] := fun q7 hq7 => by
    refine X_ld rfl rfl rfl rfl ?_
    refine X_dup rfl rfl ?_
    refine X_eget (k := 15) f_L_121 rfl ?_
    refine X_ld rfl rfl rfl rfl ?_
    refine X_bin rfl rfl ?_
    refine X_eput (k := 15) f_L_121 rfl ?_
    refine X_ld rfl rfl rfl rfl ?_
    refine X_heap (N' := e_N N (e_r4 F A v l (e_est F v true l) (e_est F v false l) n)) (congrArg (e_N N) (by unfold e_r4; rw [hpp]; rfl)) ?_
    refine X_if_lt rfl (fun c => ?_) (fun c => ?_)
    · exact X_vret rfl rfl ⟨congrArg (e_N N) (by unfold e_run; rw [hpp, if_pos c]), rfl⟩ (Nat.le_of_ble_eq_true rfl) (Nat.le_of_ble_eq_true rfl)
    have h15 : e_r4 F A v l (e_est F v true l) (e_est F v false l) n 15 = (e_r2 F (e_est F v true l) (e_est F v false l)) 15 := by unfold e_r4; rw [updI_ne (by omega), updI_ne (by omega)]
    refine X_ld rfl rfl rfl rfl ?_
    refine X_push (v := .int 3) rfl (by decide +kernel) ?_
    refine X_ld rfl rfl rfl rfl ?_
    refine X_eget (k := 13) f_L_16 rfl ?_
    refine X_bin rfl rfl ?_
    refine X_push (v := .int 1000) rfl (by decide +kernel) ?_
    refine X_push (v := .int 100) rfl (by decide +kernel) ?_
    refine X_ld rfl rfl rfl rfl ?_
    refine X_bin rfl rfl ?_
    refine X_push (v := .int 1) rfl (by decide +kernel) ?_
    refine X_ld rfl rfl rfl rfl ?_
    have tl : ∀ x : Int32, x = (if e_turn F (e_est F v false l) then (e_est F v false l) else (e_est F v true l)) → x_W G mL_run (x_Z G (d + 4) 0 0 ad0 nb0 (x_RetV (e_N N (e_run F A v l (e_est F v true l) (e_est F v false l) n))) x_noX) (e_N N (e_r4 F A v l (e_est F v true l) (e_est F v false l) n)) 0 0 271 [some (.ref 275), some (.int v), some (.int (b2 l)), some (.int (e_est F v true l)), some (.int (e_est F v false l)), some (.int (e_used F (e_est F v true l) (e_est F v false l))), some (.int p), some (.int q7), some (.int (e_met A v l p n)), some (.int (nI n))] (.int x :: .int 1 :: .int (100 * e_met A v l p n) :: .int 1000 :: .int (3 * e_r4 F A v l (e_est F v true l) (e_est F v false l) n 15) :: .ref 275 :: []) := fun x hx => by
      refine X_max lmax_L rfl (by omega) (Nat.le_of_ble_eq_true rfl) (Nat.le_of_ble_eq_true rfl) (Nat.le_of_ble_eq_true rfl) ?_
      refine X_idiv rfl (x_max1_ne _) ?_
      refine X_min lmin_L rfl (by omega) (Nat.le_of_ble_eq_true rfl) (Nat.le_of_ble_eq_true rfl) (Nat.le_of_ble_eq_true rfl) ?_
      refine X_bin rfl rfl ?_
      refine X_push (v := .int 4) rfl (by decide +kernel) ?_
      refine X_idiv rfl (by decide) ?_
      refine X_eput (k := 13) f_L_16 rfl ?_
      exact X_vret rfl rfl ⟨congrArg (e_N N) (by unfold e_run; rw [hpp, if_neg c, h15, hx]), rfl⟩ (Nat.le_of_ble_eq_true rfl) (Nat.le_of_ble_eq_true rfl)
    refine X_if_eq rfl (fun c7 => ?_) (fun c7 => ?_)
    · refine X_ld rfl rfl rfl rfl ?_
      exact tl (e_est F v true l) (by rw [if_neg]; intro ct; rw [if_pos ct] at hq7; rw [hq7] at c7; exact absurd c7 (by decide))
    · refine X_ld rfl rfl rfl rfl ?_
      refine X_goto rfl ?_
      exact tl (e_est F v false l) (by rw [if_pos]; refine Decidable.not_not.mp fun ct => c7 ?_; rw [if_neg ct] at hq7; exact hq7)
  have hm3 : upd (e_r2 F (e_est F v true l) (e_est F v false l)) 12 (F 12 + 1) 2 = nI n := by rw [updI_ne (by omega), e_r2_k (by omega)]; exact hm
  have loop : ∀ q7 : Int32, q7 = (if e_turn F (e_est F v false l) then 1 else 0) → ∀ f k, k + f = n → x_W G mL_run (x_Z G (d + 4) 0 0 ad0 nb0 (x_RetV (e_N N (e_run F A v l (e_est F v true l) (e_est F v false l) n))) x_noX) (e_N N (upd (e_r2 F (e_est F v true l) (e_est F v false l)) 12 (F 12 + 1))) 0 0 169 [some (.ref 275), some (.int v), some (.int (b2 l)), some (.int (e_est F v true l)), some (.int (e_est F v false l)), some (.int (e_used F (e_est F v true l) (e_est F v false l))), some (.int p), some (.int q7), some (.int (e_met A v l p k)), some (.int (nI k))] [] := fun q7 hq7 f => by
    induction f with
    | zero =>
      intro k e0
      obtain rfl : k = n := by omega
      refine X_ld rfl rfl rfl rfl ?_
      refine X_ld rfl rfl rfl rfl ?_
      refine X_eget (k := 0) f_L_44 rfl ?_
      refine X_icmp_ge rfl (fun _ => fin q7 hq7) (fun c => absurd ((n_le (show upd (e_r2 F (e_est F v true l) (e_est F v false l)) 12 (F 12 + 1) (0 + 2) = nI k from hm3) rfl (by omega) (by omega)).mpr (Nat.le_refl _)) c)
    | succ f ih =>
      intro k e0
      refine X_ld rfl rfl rfl rfl ?_
      refine X_ld rfl rfl rfl rfl ?_
      refine X_eget (k := 0) f_L_44 rfl ?_
      refine X_icmp_ge rfl (fun c => absurd ((n_le (show upd (e_r2 F (e_est F v true l) (e_est F v false l)) 12 (F 12 + 1) (0 + 2) = nI n from hm3) rfl (by omega) (by omega)).mp c) (by omega)) (fun _ => ?_)
      have tl : ∀ x : Int32, x = (if p < 0 ∨ (bif l then decide (A k < v) else decide (A k = v)) = true then 1 else 0) → x_W G mL_run (x_Z G (d + 4) 0 0 ad0 nb0 (x_RetV (e_N N (e_run F A v l (e_est F v true l) (e_est F v false l) n))) x_noX) (e_N N (upd (e_r2 F (e_est F v true l) (e_est F v false l)) 12 (F 12 + 1))) 0 0 219 [some (.ref 275), some (.int v), some (.int (b2 l)), some (.int (e_est F v true l)), some (.int (e_est F v false l)), some (.int (e_used F (e_est F v true l) (e_est F v false l))), some (.int p), some (.int q7), some (.int (e_met A v l p k)), some (.int (nI k))] [.int x, .int (e_met A v l p k)] := fun x hx => by
        subst hx
        refine X_bin rfl rfl ?_
        refine X_st rfl rfl rfl ?_
        refine X_iinc rfl rfl rfl ?_
        refine X_goto rfl ?_
        refine X_loc (L' := [some (.ref 275), some (.int v), some (.int (b2 l)), some (.int (e_est F v true l)), some (.int (e_est F v false l)), some (.int (e_used F (e_est F v true l) (e_est F v false l))), some (.int p), some (.int q7), some (.int (e_met A v l p (k + 1))), some (.int (nI (k + 1)))]) ⟨rfl, rfl, rfl, rfl, rfl, rfl, rfl, rfl, rfl, congrArg Value.int (m_inc rfl).symm, trivial⟩ ?_
        exact ih (k + 1) (by omega)
      refine X_ld rfl rfl rfl rfl ?_
      refine X_ld rfl rfl rfl rfl ?_
      refine X_if_lt rfl (fun c => ?_) (fun c => ?_)
      · refine X_push (v := .int 1) rfl (by decide +kernel) ?_
        refine X_goto rfl ?_
        exact tl 1 (if_pos (Or.inl c)).symm
      refine X_ld rfl rfl rfl rfl ?_
      refine X_if_eq rfl (fun cl => ?_) (fun cl => ?_)
      · have el := b2_0 cl
        subst el
        refine X_ld rfl rfl rfl rfl ?_
        refine X_eget0 f_L_7 rfl ?_
        refine X_ld rfl rfl rfl rfl ?_
        refine X_eald (by decide) hA (k := k) rfl (by omega) rfl ?_
        refine X_ld rfl rfl rfl rfl ?_
        refine X_icmp_ne rfl (fun c2 => ?_) (fun c2 => ?_)
        · refine X_push (v := .int 0) rfl (by decide +kernel) ?_
          exact tl 0 (if_neg (fun q => q.elim c (fun q => c2 (of_decide_eq_true q)))).symm
        · refine X_push (v := .int 1) rfl (by decide +kernel) ?_
          refine X_goto rfl ?_
          exact tl 1 (if_pos (Or.inr (decide_eq_true c2))).symm
      · have el := b2_1 cl
        subst el
        refine X_ld rfl rfl rfl rfl ?_
        refine X_eget0 f_L_7 rfl ?_
        refine X_ld rfl rfl rfl rfl ?_
        refine X_eald (by decide) hA (k := k) rfl (by omega) rfl ?_
        refine X_ld rfl rfl rfl rfl ?_
        refine X_icmp_ge rfl (fun c2 => ?_) (fun c2 => ?_)
        · refine X_push (v := .int 0) rfl (by decide +kernel) ?_
          exact tl 0 (if_neg (fun q => q.elim c (fun q => Int32.not_lt.mpr c2 (of_decide_eq_true q)))).symm
        · refine X_goto rfl ?_
          refine X_push (v := .int 1) rfl (by decide +kernel) ?_
          refine X_goto rfl ?_
          exact tl 1 (if_pos (Or.inr (decide_eq_true (Int32.not_le.mp c2)))).symm
  have mid : ∀ q7 : Int32, q7 = (if e_turn F (e_est F v false l) then 1 else 0) → x_W G mL_run (x_Z G (d + 4) 0 0 ad0 nb0 (x_RetV (e_N N (e_run F A v l (e_est F v true l) (e_est F v false l) n))) x_noX) (e_N N (e_r2 F (e_est F v true l) (e_est F v false l))) 0 0 153 [some (.ref 275), some (.int v), some (.int (b2 l)), some (.int (e_est F v true l)), some (.int (e_est F v false l)), some (.int (e_used F (e_est F v true l) (e_est F v false l))), some (.int p), some (.int q7), none, none] [] := fun q7 hq7 => by
    have h12 : (e_r2 F (e_est F v true l) (e_est F v false l)) 12 = F 12 := e_r2_k (by omega)
    refine X_ld rfl rfl rfl rfl ?_
    refine X_dup rfl rfl ?_
    refine X_eget (k := 10) f_L_95 rfl ?_
    refine X_push (v := .int 1) rfl (by decide +kernel) ?_
    refine X_bin rfl rfl ?_
    refine X_eput (k := 10) f_L_95 rfl ?_
    refine X_push (v := .int 0) rfl (by decide +kernel) ?_
    refine X_st rfl rfl rfl ?_
    refine X_push (v := .int 0) rfl (by decide +kernel) ?_
    refine X_st rfl rfl rfl ?_
    refine X_heap (N' := e_N N (upd (e_r2 F (e_est F v true l) (e_est F v false l)) 12 (F 12 + 1))) (congrArg (e_N N) (by rw [← h12])) ?_
    refine X_loc (L' := [some (.ref 275), some (.int v), some (.int (b2 l)), some (.int (e_est F v true l)), some (.int (e_est F v false l)), some (.int (e_used F (e_est F v true l) (e_est F v false l))), some (.int p), some (.int q7), some (.int (e_met A v l p 0)), some (.int (nI 0))]) ⟨rfl, rfl, rfl, rfl, rfl, rfl, rfl, rfl, rfl, rfl, trivial⟩ ?_
    exact loop q7 hq7 n 0 (Nat.zero_add n)
  have head : x_W G mL_run (x_Z G (d + 4) 0 0 ad0 nb0 (x_RetV (e_N N (e_run F A v l (e_est F v true l) (e_est F v false l) n))) x_noX) (e_N N (e_r1 F (e_est F v false l))) 0 0 99 [some (.ref 275), some (.int v), some (.int (b2 l)), some (.int (e_est F v true l)), some (.int (e_est F v false l)), some (.int (e_used F (e_est F v true l) (e_est F v false l))), none, none, none, none] [] := by
    refine X_ld rfl rfl rfl rfl ?_
    refine X_push (v := .int 2) rfl (by decide +kernel) ?_
    refine X_idiv rfl (by decide) ?_
    refine X_push (v := .int 1) rfl (by decide +kernel) ?_
    refine X_bin rfl rfl ?_
    have hu := e_used_pl (F := F) (s := (e_est F v true l)) (g := (e_est F v false l))
    rw [hpp] at hu
    have h1 : e_used F (e_est F v true l) (e_est F v false l) / 2 - 1 = p := by
      rw [hu]
      by_cases ct : e_turn F (e_est F v false l)
      · rw [if_pos ct]; rcases hp2 with hp | hp <;> rw [hp] <;> decide
      · rw [if_neg ct]; rcases hp2 with hp | hp <;> rw [hp] <;> decide
    refine X_stk (st' := [.int p]) (congrArg (fun z => [Value.int z]) h1) ?_
    refine X_st rfl rfl rfl ?_
    refine X_ld rfl rfl rfl rfl ?_
    refine X_push (v := .int 2) rfl (by decide +kernel) ?_
    refine X_irem rfl (by decide) ?_
    refine X_push (v := .int 1) rfl (by decide +kernel) ?_
    by_cases ct : e_turn F (e_est F v false l)
    · have h2 : e_used F (e_est F v true l) (e_est F v false l) - e_used F (e_est F v true l) (e_est F v false l) / 2 * 2 = 1 := by rw [hu, if_pos ct]; rcases hp2 with hp | hp <;> rw [hp] <;> decide
      refine X_icmp_ne rfl (fun c => absurd h2 c) (fun _ => ?_)
      refine X_push (v := .int 1) rfl (by decide +kernel) ?_
      refine X_goto rfl ?_
      refine X_st rfl rfl rfl ?_
      refine X_ld rfl rfl rfl rfl ?_
      refine X_if_ne rfl (fun _ => ?_) (fun c => absurd c (by decide))
      refine X_heap (N' := e_N N (e_r2 F (e_est F v true l) (e_est F v false l))) (congrArg (e_N N) (by unfold e_r2; rw [if_pos ct])) ?_
      exact mid 1 (if_pos ct).symm
    · have h2 : ¬ e_used F (e_est F v true l) (e_est F v false l) - e_used F (e_est F v true l) (e_est F v false l) / 2 * 2 = 1 := by rw [hu, if_neg ct]; rcases hp2 with hp | hp <;> rw [hp] <;> decide
      refine X_icmp_ne rfl (fun _ => ?_) (fun c => absurd c h2)
      refine X_push (v := .int 0) rfl (by decide +kernel) ?_
      refine X_st rfl rfl rfl ?_
      refine X_ld rfl rfl rfl rfl ?_
      refine X_if_ne rfl (fun c => absurd rfl c) (fun _ => ?_)
      refine X_ld rfl rfl rfl rfl ?_
      refine X_dup rfl rfl ?_
      refine X_eget (k := 11) f_L_101 rfl ?_
      refine X_push (v := .int 1) rfl (by decide +kernel) ?_
      refine X_bin rfl rfl ?_
      refine X_eput (k := 11) f_L_101 rfl ?_
      refine X_ld rfl rfl rfl rfl ?_
      refine X_dup rfl rfl ?_
      refine X_eget (k := 12) f_L_104 rfl ?_
      refine X_ld rfl rfl rfl rfl ?_
      refine X_ld rfl rfl rfl rfl ?_
      refine X_ld rfl rfl rfl rfl ?_
      refine X_vcall x_set_eq l_L_L_costOf (v_costOf hG d x_set_eq) rfl rfl rfl rfl (Nat.le_of_ble_eq_true rfl) (Nat.le_of_ble_eq_true rfl) (by omega) (Nat.le_of_ble_eq_true rfl) (Nat.le_of_ble_eq_true rfl) ?_
      refine X_bin rfl rfl ?_
      refine X_eput (k := 12) f_L_104 rfl ?_
      refine X_heap (N' := e_N N (e_r2 F (e_est F v true l) (e_est F v false l))) (congrArg (e_N N) (by unfold e_r2; rw [if_neg ct, hpp, e_costOf_k2 (F := F) ((updI_ne (by decide)).trans (e_r1_k (by omega))) ((updI_ne (by decide)).trans (e_r1_k (by omega))) ((updI_ne (by decide)).trans (e_r1_k (by omega))) ((updI_ne (by decide)).trans (e_r1_k (by omega))) ((updI_ne (by decide)).trans (e_r1_k (by omega)))]; rfl)) ?_
      exact mid 0 (if_neg ct).symm
  refine X_ld rfl rfl rfl rfl ?_
  refine X_ld rfl rfl rfl rfl ?_
  refine X_push (v := .int 1) rfl (by decide +kernel) ?_
  refine X_ld rfl rfl rfl rfl ?_
  refine X_vcall x_set_eq l_L_L_estimate (v_est hG d x_set_eq (v := v) (z := true) (l := l) h4) rfl rfl rfl rfl (Nat.le_of_ble_eq_true rfl) (Nat.le_of_ble_eq_true rfl) (by omega) (Nat.le_of_ble_eq_true rfl) (Nat.le_of_ble_eq_true rfl) ?_
  refine X_st rfl rfl rfl ?_
  refine X_ld rfl rfl rfl rfl ?_
  refine X_ld rfl rfl rfl rfl ?_
  refine X_push (v := .int 0) rfl (by decide +kernel) ?_
  refine X_ld rfl rfl rfl rfl ?_
  refine X_vcall x_set_eq l_L_L_estimate (v_est hG d x_set_eq (v := v) (z := false) (l := l) h4) rfl rfl rfl rfl (Nat.le_of_ble_eq_true rfl) (Nat.le_of_ble_eq_true rfl) (by omega) (Nat.le_of_ble_eq_true rfl) (Nat.le_of_ble_eq_true rfl) ?_
  refine X_st rfl rfl rfl ?_
  refine X_ld rfl rfl rfl rfl ?_
  refine X_ld rfl rfl rfl rfl ?_
  refine X_ld rfl rfl rfl rfl ?_
  refine X_vcall x_set_eq l_L_L_used (v_used hG d x_set_eq) rfl rfl rfl rfl (Nat.le_of_ble_eq_true rfl) (Nat.le_of_ble_eq_true rfl) (by omega) (Nat.le_of_ble_eq_true rfl) (Nat.le_of_ble_eq_true rfl) ?_
  refine X_st rfl rfl rfl ?_
  refine X_ld rfl rfl rfl rfl ?_
  refine X_eget (k := 10) f_L_95 rfl ?_
  refine X_ld rfl rfl rfl rfl ?_
  refine X_eget (k := 9) f_L_98 rfl ?_
  have keep : ¬ F 12 < F 11 → e_stale F → x_W G mL_run (x_Z G (d + 4) 0 0 ad0 nb0 (x_RetV (e_N N (e_run F A v l (e_est F v true l) (e_est F v false l) n))) x_noX) (e_N N F) 0 0 57 [some (.ref 275), some (.int v), some (.int (b2 l)), some (.int (e_est F v true l)), some (.int (e_est F v false l)), some (.int (e_used F (e_est F v true l) (e_est F v false l))), none, none, none, none] [] := fun c1 c2 => by
    refine X_ld rfl rfl rfl rfl ?_
    refine X_ld rfl rfl rfl rfl ?_
    refine X_ld rfl rfl rfl rfl ?_
    refine X_vcall x_set_eq l_L_L_plan (v_plan hG d x_set_eq) rfl rfl rfl rfl (Nat.le_of_ble_eq_true rfl) (Nat.le_of_ble_eq_true rfl) (by omega) (Nat.le_of_ble_eq_true rfl) (Nat.le_of_ble_eq_true rfl) ?_
    refine X_eput (k := 16) f_L_20 rfl ?_
    refine X_ld rfl rfl rfl rfl ?_
    refine X_ld rfl rfl rfl rfl ?_
    refine X_ld rfl rfl rfl rfl ?_
    refine X_eget (k := 16) f_L_20 rfl ?_
    refine X_ld rfl rfl rfl rfl ?_
    refine X_vcall x_set_eq l_L_L_costOf (v_costOf hG d x_set_eq) rfl rfl rfl rfl (Nat.le_of_ble_eq_true rfl) (Nat.le_of_ble_eq_true rfl) (by omega) (Nat.le_of_ble_eq_true rfl) (Nat.le_of_ble_eq_true rfl) ?_
    refine X_eput (k := 17) f_L_92 rfl ?_
    refine X_ld rfl rfl rfl rfl ?_
    refine X_ld rfl rfl rfl rfl ?_
    refine X_eget (k := 5) f_L_83 rfl ?_
    refine X_eput (k := 18) f_L_80 rfl ?_
    refine X_ld rfl rfl rfl rfl ?_
    refine X_dup rfl rfl ?_
    refine X_eget (k := 14) f_L_118 rfl ?_
    refine X_push (v := .int 1) rfl (by decide +kernel) ?_
    refine X_bin rfl rfl ?_
    refine X_eput (k := 14) f_L_118 rfl ?_
    refine X_heap (N' := e_N N (e_r1 F (e_est F v false l))) (congrArg (e_N N) (by unfold e_r1; rw [if_pos ⟨c1, c2⟩]; rfl)) ?_
    exact head
  refine X_icmp_lt rfl (fun c => ?_) (fun c1 => ?_)
  · refine X_heap (N' := e_N N (e_r1 F (e_est F v false l))) (congrArg (e_N N) (by unfold e_r1; rw [if_neg (fun q => q.1 c)])) ?_
    exact head
  · refine X_ld rfl rfl rfl rfl ?_
    refine X_eget (k := 16) f_L_20 rfl ?_
    refine X_push (v := .int (-2)) rfl (by decide +kernel) ?_
    refine X_icmp_eq rfl (fun c2 => keep c1 (Or.inl c2)) (fun c2 => ?_)
    refine X_ld rfl rfl rfl rfl ?_
    refine X_eget (k := 18) f_L_80 rfl ?_
    refine X_ld rfl rfl rfl rfl ?_
    refine X_eget (k := 5) f_L_83 rfl ?_
    refine X_icmp_eq rfl (fun c3 => ?_) (fun c3 => keep c1 (Or.inr c3))
    refine X_heap (N' := e_N N (e_r1 F (e_est F v false l))) (congrArg (e_N N) (by unfold e_r1; rw [if_neg (fun q => q.2.elim c2 (fun x => x c3))])) ?_
    exact head
theorem v_alike {G : XE} (hG : x_Kn G) (hX : x_KX G) {B : XH} {J bf K tk ts : Nat → Int32} {tl : Int64} {tv : Nat → Int64} {su : Nat → Nat} {D : Nat → Nat → Int32} (d w : Nat) (hw : J 5 = nI w) (hw10 : w < 10) {e F A C : Nat → Int32} {l : Bool} {oo t : Nat} (hm : md e F A C l oo) {B0 : XH} (hl : L_lv B0 t e (D w) (su w)) (hB : y_le B0 B) (hO : B 275 = some (e_O F)) : x_M G mL_isAlike (d + 8) 26 156 [.ref 275, .ref 64] (cset B J bf K tk ts tl tv su D) (x_Ret (cset B J bf K tk ts tl tv su D) (.int 1)) x_noX := by
  refine X_M hG okL_isAlike rfl (L := [some (.ref 275), some (.ref 64), none]) rfl (Nat.le_of_ble_eq_true rfl) (fun ad0 nb0 => ?_)
  have hN : (cset B J bf K tk ts tl tv su D) 275 = some (e_O F) := c_B ⟨by decide, by decide⟩ hO
  obtain ⟨⟨a0, a1, a2, a3, a4, a5⟩, ⟨b0, b1, b2⟩, ⟨c3, c8, c1⟩, d2, d3, d4⟩ := hm.told hl
  have hst := y_le.st hB hl.2.2.1
  have hwf := hl.1.1
  have hs : (0 : Int32) ≤ 0 ∧ (0 : Int32) < nI (s_sm e) := by rw [hm.sm]; decide
  have hc : (0 : Int32) ≤ 0 ∧ (0 : Int32) < e 0 := by rw [hm.f0]; decide
  have hc1 : (0 : Int32) ≤ 1 ∧ (1 : Int32) < e 0 := by rw [hm.f0]; decide
  have tail : x_W G mL_isAlike (x_Z G (d + 8) 26 156 ad0 nb0 (x_Ret (cset B J bf K tk ts tl tv su D) (.int 1)) x_noX) (cset B J bf K tk ts tl tv su D) 0 0 29 [some (.ref 275), some (.ref 64), none] [.int (if F 18 = -2 then 0 else if F 20 = F 7 then 1 else 2 : Int32)] := by
    refine X_st rfl rfl rfl ?_
    refine X_ld rfl rfl rfl rfl ?_
    refine X_push (v := .int 0) rfl (by decide +kernel) ?_
    refine X_push (v := .int 0) rfl (by decide +kernel) ?_
    refine X_vcallX c_O l_L_X10_statement (m_statement hG hX d w hw hw10 hst hwf (x := 0) (y := 0)) rfl rfl rfl rfl (Nat.le_of_ble_eq_true rfl) (Nat.le_of_ble_eq_true rfl) (by omega) (Nat.le_of_ble_eq_true rfl) (Nat.le_of_ble_eq_true rfl) rfl (fun N9 E9 h9 => (h9.2.elim (fun q => absurd hs q.1) (fun q => absurd (show s_to8 5 0 from ⟨0, by decide, rfl⟩) q.2.1))) (fun N9 r9 h9 => ?_)
    obtain ⟨-, rfl, rfl⟩ := h9
    refine X_stk (st' := [.int (F 12)]) (congrArg (fun z => [Value.int z]) a0) ?_
    refine X_ld rfl rfl rfl rfl ?_
    refine X_get f_L_95 rfl hN rfl ?_
    refine X_icmp_ne rfl (fun c => absurd rfl c) (fun _ => ?_)
    refine X_ld rfl rfl rfl rfl ?_
    refine X_push (v := .int 0) rfl (by decide +kernel) ?_
    refine X_push (v := .int 1) rfl (by decide +kernel) ?_
    refine X_vcallX c_O l_L_X10_statement (m_statement hG hX d w hw hw10 hst hwf (x := 0) (y := 1)) rfl rfl rfl rfl (Nat.le_of_ble_eq_true rfl) (Nat.le_of_ble_eq_true rfl) (by omega) (Nat.le_of_ble_eq_true rfl) (Nat.le_of_ble_eq_true rfl) rfl (fun N9 E9 h9 => (h9.2.elim (fun q => absurd hs q.1) (fun q => absurd (show s_to8 5 1 from ⟨1, by decide, rfl⟩) q.2.1))) (fun N9 r9 h9 => ?_)
    obtain ⟨-, rfl, rfl⟩ := h9
    refine X_stk (st' := [.int (F 13)]) (congrArg (fun z => [Value.int z]) a1) ?_
    refine X_ld rfl rfl rfl rfl ?_
    refine X_get f_L_101 rfl hN rfl ?_
    refine X_icmp_ne rfl (fun c => absurd rfl c) (fun _ => ?_)
    refine X_ld rfl rfl rfl rfl ?_
    refine X_push (v := .int 0) rfl (by decide +kernel) ?_
    refine X_push (v := .int 2) rfl (by decide +kernel) ?_
    refine X_vcallX c_O l_L_X10_statement (m_statement hG hX d w hw hw10 hst hwf (x := 0) (y := 2)) rfl rfl rfl rfl (Nat.le_of_ble_eq_true rfl) (Nat.le_of_ble_eq_true rfl) (by omega) (Nat.le_of_ble_eq_true rfl) (Nat.le_of_ble_eq_true rfl) rfl (fun N9 E9 h9 => (h9.2.elim (fun q => absurd hs q.1) (fun q => absurd (show s_to8 5 2 from ⟨2, by decide, rfl⟩) q.2.1))) (fun N9 r9 h9 => ?_)
    obtain ⟨-, rfl, rfl⟩ := h9
    refine X_stk (st' := [.int (F 14)]) (congrArg (fun z => [Value.int z]) a2) ?_
    refine X_ld rfl rfl rfl rfl ?_
    refine X_get f_L_104 rfl hN rfl ?_
    refine X_icmp_ne rfl (fun c => absurd rfl c) (fun _ => ?_)
    refine X_ld rfl rfl rfl rfl ?_
    refine X_push (v := .int 0) rfl (by decide +kernel) ?_
    refine X_push (v := .int 3) rfl (by decide +kernel) ?_
    refine X_vcallX c_O l_L_X10_statement (m_statement hG hX d w hw hw10 hst hwf (x := 0) (y := 3)) rfl rfl rfl rfl (Nat.le_of_ble_eq_true rfl) (Nat.le_of_ble_eq_true rfl) (by omega) (Nat.le_of_ble_eq_true rfl) (Nat.le_of_ble_eq_true rfl) rfl (fun N9 E9 h9 => (h9.2.elim (fun q => absurd hs q.1) (fun q => absurd (show s_to8 5 3 from ⟨3, by decide, rfl⟩) q.2.1))) (fun N9 r9 h9 => ?_)
    obtain ⟨-, rfl, rfl⟩ := h9
    refine X_stk (st' := [.int (F 16)]) (congrArg (fun z => [Value.int z]) a3) ?_
    refine X_ld rfl rfl rfl rfl ?_
    refine X_get f_L_118 rfl hN rfl ?_
    refine X_icmp_ne rfl (fun c => absurd rfl c) (fun _ => ?_)
    refine X_ld rfl rfl rfl rfl ?_
    refine X_push (v := .int 0) rfl (by decide +kernel) ?_
    refine X_push (v := .int 4) rfl (by decide +kernel) ?_
    refine X_vcallX c_O l_L_X10_statement (m_statement hG hX d w hw hw10 hst hwf (x := 0) (y := 4)) rfl rfl rfl rfl (Nat.le_of_ble_eq_true rfl) (Nat.le_of_ble_eq_true rfl) (by omega) (Nat.le_of_ble_eq_true rfl) (Nat.le_of_ble_eq_true rfl) rfl (fun N9 E9 h9 => (h9.2.elim (fun q => absurd hs q.1) (fun q => absurd (show s_to8 5 4 from ⟨4, by decide, rfl⟩) q.2.1))) (fun N9 r9 h9 => ?_)
    obtain ⟨-, rfl, rfl⟩ := h9
    refine X_stk (st' := [.int ((if F 18 = -2 then 0 else if F 20 = F 7 then 1 else 2 : Int32))]) (congrArg (fun z => [Value.int z]) a4) ?_
    refine X_ld rfl rfl rfl rfl ?_
    refine X_icmp_ne rfl (fun c => absurd rfl c) (fun _ => ?_)
    refine X_ld rfl rfl rfl rfl ?_
    refine X_push (v := .int 0) rfl (by decide +kernel) ?_
    refine X_push (v := .int 5) rfl (by decide +kernel) ?_
    refine X_vcallX c_O l_L_X10_statement (m_statement hG hX d w hw hw10 hst hwf (x := 0) (y := 5)) rfl rfl rfl rfl (Nat.le_of_ble_eq_true rfl) (Nat.le_of_ble_eq_true rfl) (by omega) (Nat.le_of_ble_eq_true rfl) (Nat.le_of_ble_eq_true rfl) rfl (fun N9 E9 h9 => (h9.2.elim (fun q => absurd hs q.1) (fun q => absurd (show s_to8 5 5 from ⟨5, by decide, rfl⟩) q.2.1))) (fun N9 r9 h9 => ?_)
    obtain ⟨-, rfl, rfl⟩ := h9
    refine X_stk (st' := [.int (F 17)]) (congrArg (fun z => [Value.int z]) a5) ?_
    refine X_ld rfl rfl rfl rfl ?_
    refine X_get f_L_121 rfl hN rfl ?_
    refine X_icmp_ne rfl (fun c => absurd rfl c) (fun _ => ?_)
    refine X_ld rfl rfl rfl rfl ?_
    refine X_push (v := .int 0) rfl (by decide +kernel) ?_
    refine X_push (v := .int 0) rfl (by decide +kernel) ?_
    refine X_vcallX c_O l_L_X10_learned (m_learned hG hX d w hw hw10 hst hwf (x := 0) (y := 0)) rfl rfl rfl rfl (Nat.le_of_ble_eq_true rfl) (Nat.le_of_ble_eq_true rfl) (by omega) (Nat.le_of_ble_eq_true rfl) (Nat.le_of_ble_eq_true rfl) rfl (fun N9 E9 h9 => (absurd ⟨hs, hc⟩ h9.1)) (fun N9 r9 h9 => ?_)
    obtain ⟨-, rfl, rfl⟩ := h9
    refine X_stk (st' := [.int (F 15)]) (congrArg (fun z => [Value.int z]) b0) ?_
    refine X_ld rfl rfl rfl rfl ?_
    refine X_get f_L_16 rfl hN rfl ?_
    refine X_icmp_ne rfl (fun c => absurd rfl c) (fun _ => ?_)
    refine X_ld rfl rfl rfl rfl ?_
    refine X_push (v := .int 0) rfl (by decide +kernel) ?_
    refine X_push (v := .int 1) rfl (by decide +kernel) ?_
    refine X_vcallX c_O l_L_X10_learned (m_learned hG hX d w hw hw10 hst hwf (x := 0) (y := 1)) rfl rfl rfl rfl (Nat.le_of_ble_eq_true rfl) (Nat.le_of_ble_eq_true rfl) (by omega) (Nat.le_of_ble_eq_true rfl) (Nat.le_of_ble_eq_true rfl) rfl (fun N9 E9 h9 => (absurd ⟨hs, hc1⟩ h9.1)) (fun N9 r9 h9 => ?_)
    obtain ⟨-, rfl, rfl⟩ := h9
    refine X_stk (st' := [.int (100)]) (congrArg (fun z => [Value.int z]) b1) ?_
    refine X_push (v := .int 100) rfl (by decide +kernel) ?_
    refine X_icmp_ne rfl (fun c => absurd rfl c) (fun _ => ?_)
    refine X_ld rfl rfl rfl rfl ?_
    refine X_push (v := .int 0) rfl (by decide +kernel) ?_
    refine X_vcallX c_O l_L_X10_kept (m_kept hG hX d w hw hw10 hst hwf (x := 0)) rfl rfl rfl rfl (Nat.le_of_ble_eq_true rfl) (Nat.le_of_ble_eq_true rfl) (by omega) (Nat.le_of_ble_eq_true rfl) (Nat.le_of_ble_eq_true rfl) rfl (fun N9 E9 h9 => (absurd hs h9.1)) (fun N9 r9 h9 => ?_)
    obtain ⟨-, rfl, rfl⟩ := h9
    refine X_stk (st' := [.int (F 18)]) (congrArg (fun z => [Value.int z]) b2) ?_
    refine X_ld rfl rfl rfl rfl ?_
    refine X_get f_L_20 rfl hN rfl ?_
    refine X_icmp_ne rfl (fun c => absurd rfl c) (fun _ => ?_)
    refine X_ld rfl rfl rfl rfl ?_
    refine X_push (v := .int 3) rfl (by decide +kernel) ?_
    refine X_vcallX c_O l_L_X10_count (m_count hG hX d w hw hw10 hst (x := 3)) rfl rfl rfl rfl (Nat.le_of_ble_eq_true rfl) (Nat.le_of_ble_eq_true rfl) (by omega) (Nat.le_of_ble_eq_true rfl) (Nat.le_of_ble_eq_true rfl) rfl (fun N9 E9 h9 => (absurd (show s_to8 8 3 from ⟨3, by decide, rfl⟩) h9.1)) (fun N9 r9 h9 => ?_)
    obtain ⟨-, rfl, rfl⟩ := h9
    refine X_stk (st' := [.int (F 7)]) (congrArg (fun z => [Value.int z]) c3) ?_
    refine X_ld rfl rfl rfl rfl ?_
    refine X_get f_L_83 rfl hN rfl ?_
    refine X_icmp_ne rfl (fun c => absurd rfl c) (fun _ => ?_)
    refine X_ld rfl rfl rfl rfl ?_
    refine X_push (v := .int 8) rfl (by decide +kernel) ?_
    refine X_vcallX c_O l_L_X10_count (m_count hG hX d w hw hw10 hst (x := 8)) rfl rfl rfl rfl (Nat.le_of_ble_eq_true rfl) (Nat.le_of_ble_eq_true rfl) (by omega) (Nat.le_of_ble_eq_true rfl) (Nat.le_of_ble_eq_true rfl) rfl (fun N9 E9 h9 => (absurd (show s_to8 8 8 from ⟨8, by decide, rfl⟩) h9.1)) (fun N9 r9 h9 => ?_)
    obtain ⟨-, rfl, rfl⟩ := h9
    refine X_stk (st' := [.int (F 3)]) (congrArg (fun z => [Value.int z]) c8) ?_
    refine X_ld rfl rfl rfl rfl ?_
    refine X_get f_L_47 rfl hN rfl ?_
    refine X_icmp_ne rfl (fun c => absurd rfl c) (fun _ => ?_)
    refine X_ld rfl rfl rfl rfl ?_
    refine X_push (v := .int 1) rfl (by decide +kernel) ?_
    refine X_vcallX c_O l_L_X10_count (m_count hG hX d w hw hw10 hst (x := 1)) rfl rfl rfl rfl (Nat.le_of_ble_eq_true rfl) (Nat.le_of_ble_eq_true rfl) (by omega) (Nat.le_of_ble_eq_true rfl) (Nat.le_of_ble_eq_true rfl) rfl (fun N9 E9 h9 => (absurd (show s_to8 8 1 from ⟨1, by decide, rfl⟩) h9.1)) (fun N9 r9 h9 => ?_)
    obtain ⟨-, rfl, rfl⟩ := h9
    refine X_stk (st' := [.int (F 2)]) (congrArg (fun z => [Value.int z]) c1) ?_
    refine X_ld rfl rfl rfl rfl ?_
    refine X_get f_L_44 rfl hN rfl ?_
    refine X_icmp_ne rfl (fun c => absurd rfl c) (fun _ => ?_)
    refine X_ld rfl rfl rfl rfl ?_
    refine X_push (v := .int 0) rfl (by decide +kernel) ?_
    refine X_push (v := .int 2) rfl (by decide +kernel) ?_
    refine X_vcallX c_O l_L_X10_column (m_column hG hX d w hw hw10 hst hwf (x := 0) (y := 2)) rfl rfl rfl rfl (Nat.le_of_ble_eq_true rfl) (Nat.le_of_ble_eq_true rfl) (by omega) (Nat.le_of_ble_eq_true rfl) (Nat.le_of_ble_eq_true rfl) rfl (fun N9 E9 h9 => (h9.2.elim (fun q => absurd hc q.1) (fun q => absurd (show s_to8 4 2 from ⟨2, by decide, rfl⟩) q.2.1))) (fun N9 r9 h9 => ?_)
    obtain ⟨-, rfl, rfl⟩ := h9
    refine X_stk (st' := [.int (F 4)]) (congrArg (fun z => [Value.int z]) d2) ?_
    refine X_ld rfl rfl rfl rfl ?_
    refine X_get f_L_50 rfl hN rfl ?_
    refine X_icmp_ne rfl (fun c => absurd rfl c) (fun _ => ?_)
    refine X_ld rfl rfl rfl rfl ?_
    refine X_push (v := .int 0) rfl (by decide +kernel) ?_
    refine X_push (v := .int 3) rfl (by decide +kernel) ?_
    refine X_vcallX c_O l_L_X10_column (m_column hG hX d w hw hw10 hst hwf (x := 0) (y := 3)) rfl rfl rfl rfl (Nat.le_of_ble_eq_true rfl) (Nat.le_of_ble_eq_true rfl) (by omega) (Nat.le_of_ble_eq_true rfl) (Nat.le_of_ble_eq_true rfl) rfl (fun N9 E9 h9 => (h9.2.elim (fun q => absurd hc q.1) (fun q => absurd (show s_to8 4 3 from ⟨3, by decide, rfl⟩) q.2.1))) (fun N9 r9 h9 => ?_)
    obtain ⟨-, rfl, rfl⟩ := h9
    refine X_stk (st' := [.int (F 5)]) (congrArg (fun z => [Value.int z]) d3) ?_
    refine X_ld rfl rfl rfl rfl ?_
    refine X_get f_L_53 rfl hN rfl ?_
    refine X_icmp_ne rfl (fun c => absurd rfl c) (fun _ => ?_)
    refine X_ld rfl rfl rfl rfl ?_
    refine X_push (v := .int 0) rfl (by decide +kernel) ?_
    refine X_push (v := .int 4) rfl (by decide +kernel) ?_
    refine X_vcallX c_O l_L_X10_column (m_column hG hX d w hw hw10 hst hwf (x := 0) (y := 4)) rfl rfl rfl rfl (Nat.le_of_ble_eq_true rfl) (Nat.le_of_ble_eq_true rfl) (by omega) (Nat.le_of_ble_eq_true rfl) (Nat.le_of_ble_eq_true rfl) rfl (fun N9 E9 h9 => (h9.2.elim (fun q => absurd hc q.1) (fun q => absurd (show s_to8 4 4 from ⟨4, by decide, rfl⟩) q.2.1))) (fun N9 r9 h9 => ?_)
    obtain ⟨-, rfl, rfl⟩ := h9
    refine X_stk (st' := [.int (F 6)]) (congrArg (fun z => [Value.int z]) d4) ?_
    refine X_ld rfl rfl rfl rfl ?_
    refine X_get f_L_56 rfl hN rfl ?_
    refine X_icmp_ne rfl (fun c => absurd rfl c) (fun _ => ?_)
    refine X_push (v := .int 1) rfl (by decide +kernel) ?_
    refine X_goto rfl ?_
    exact X_zret rfl rfl rfl ⟨rfl, rfl⟩ (Nat.le_of_ble_eq_true rfl) (Nat.le_of_ble_eq_true rfl)
  refine X_ld rfl rfl rfl rfl ?_
  refine X_get f_L_20 rfl hN rfl ?_
  refine X_push (v := .int (-2)) rfl (by decide +kernel) ?_
  refine X_icmp_ne rfl (fun c => ?_) (fun c => ?_)
  · refine X_ld rfl rfl rfl rfl ?_
    refine X_get f_L_80 rfl hN rfl ?_
    refine X_ld rfl rfl rfl rfl ?_
    refine X_get f_L_83 rfl hN rfl ?_
    refine X_icmp_ne rfl (fun c2 => ?_) (fun c2 => ?_)
    · refine X_push (v := .int 2) rfl (by decide +kernel) ?_
      refine X_stk (st' := [.int (if F 18 = -2 then 0 else if F 20 = F 7 then 1 else 2 : Int32)]) (congrArg (fun z => [Value.int z]) ((if_neg c).trans (if_neg c2)).symm) tail
    · refine X_push (v := .int 1) rfl (by decide +kernel) ?_
      refine X_goto rfl ?_
      refine X_stk (st' := [.int (if F 18 = -2 then 0 else if F 20 = F 7 then 1 else 2 : Int32)]) (congrArg (fun z => [Value.int z]) ((if_neg c).trans (if_pos c2)).symm) tail
  · refine X_push (v := .int 0) rfl (by decide +kernel) ?_
    refine X_goto rfl ?_
    refine X_stk (st' := [.int (if F 18 = -2 then 0 else if F 20 = F 7 then 1 else 2 : Int32)]) (congrArg (fun z => [Value.int z]) (if_pos c).symm) tail
