/-! ===== the law: its end, its rows ===== -/
/-- room, the end: the law's -/
def L_Z (G : XE) (ad0 : Nat → Nat) (nb0 : Nat) : XZ := (room_1, ad0, nb0, fun below args s t => s.heap.size ≤ x_n0 G → lw_Z below args s t)
theorem L_imp {p : Program} {l : Launch} {e : Env} {R : Room} {s : State} {m : MethodId} {args : Array Value} {below : List Frame} {meth : Method} {c : Code} {H : Heap} {locs : List Loc} {cells slots : Nat} {g : JFrame} {A : Prop} {Q : State → Prop} (h : A → W p l e R s m args below meth c H locs cells slots Q g) : W p l e R s m args below meth c H locs cells slots (fun t => A → Q t) g := by
  intro T hT X
  by_cases hA : A
  · obtain ⟨t, h1, h2⟩ := h hA T hT X
    exact ⟨t, h1, fun _ => h2⟩
  · exact ⟨_, Steps.refl _, fun q => absurd q hA⟩
theorem L_ret {p : Program} {l : Launch} {e : Env} {s : State} {m : MethodId} {args : Array Value} {below : List Frame} {meth : Method} {c : Code} (hx : p.tables.exec = Jvm.exec) (hb : c.code = code) (hr : meth.sig.returnType = ret) (hlocks : meth.locks = false) {pc : Nat} {H : Heap} {ls : Array Slot} (hdg : decode code pc = .ok (.ireturn, 1)) : W p l e room_1 s m args below meth c H [] 604330 7288780 (lw_Z below args s) (F0 m pc ls [.int 1]) := by
  intro T hT X
  obtain ⟨fs, hret, hrun, hended, hW, hframe⟩ := X.leave (v := some (.int 1)) (hlocks := hlocks) (fun h => by rw [hr] at h; cases h)
  have hmeth' : T.vm.method? m = some meth := X.method'
  refine ⟨T.setFrames fs, ?_, .returned (some (.int 1)), hrun, hended, rfl, ⟨_, rfl⟩, hW, hframe⟩
  jvm_step X.here [X.here.top, hx, hb, hdg, hmeth', hr, ret, narrow_b1]
  (try refine ⟨rfl, ?_⟩); (try refine ⟨rfl, ?_⟩)
  first | (intro acts; rw [hret _ acts rfl rfl rfl]) | rw [hret _ _ rfl rfl rfl]
  exact Steps.refl _
section LAW
variable {G : XE} {Mc : XMI} {ad0 : Nat → Nat} {nb0 : Nat} {N : XH} {cells slots pc pc' t : Nat} {L : List (Option Value)} {st : List Value}
/-- the law's end -/
theorem X_Lret (hdg : decode code pc = .ok (.ireturn, 1)) (hc : cells ≤ 604330) (hs : slots ≤ 7288780) : x_W G mL_lw (L_Z G ad0 nb0) N cells slots pc L [.int 1] := by
  intro p e s m args below meth c ad nb H locs ls B hR hnb he hS hl hvs
  obtain ⟨hx, hb, hml, hr, hlk, hown, hts, hW, hkp, htb, hnm, hKn, hok⟩ := id B
  exact L_imp (fun h1 => va_forget (fun q hq => Nat.le_trans h1 (hS.2.2 q hq)) (W.widen hc hs (L_ret hx hb hr hlk hdg)))
theorem L_fit {d mc ms : Nat} (hL : x_nL Mc ≤ 81) (hd : d ≤ 800) (hc : cells + mc ≤ 604330) (hs : slots + ms ≤ 7288780) : x_fit (L_Z G ad0 nb0) cells slots Mc d mc ms := by
  refine ⟨?_, ?_, hc, hs⟩
  · show d + 1 ≤ 2048
    omega
  · show 8 + (x_nL Mc + 11) + 100 * d ≤ 84000
    omega
theorem X_lv {N1 : XH} {idx n d mc ms o ci nf : Nat} {T : u_T} {V : Nat → Value} {As rest : List Value} {v : Value} (hN : N o = some (.inl (ci, V))) (hk : x_LV RL idx n Mc) (hM : x_M G Mc d mc ms (.ref o :: As) N (x_Ret N1 v) x_noX) (hd : x_at (x_k mL_lw) pc = some (.invokevirtual idx, pc', t)) (hst : st = As.reverse ++ .ref o :: rest) (hci : vwCl[ci]? = some ((x_y Mc).cls, T, nf)) (hn : As.length = n) (hrest : (rest.map fun v => v.category).sum ≤ 8) (hL : x_nL Mc ≤ 81) (hdd : d ≤ 800) (h1 : cells + mc ≤ 604330) (h2 : slots + ms ≤ 7288780) (kk : x_W G mL_lw (L_Z G ad0 nb0) N1 (cells + mc) (slots + ms) pc' L (v :: rest)) : x_W G mL_lw (L_Z G ad0 nb0) N cells slots pc L st :=
  X_callV (T := T) (nf := nf) hk hM hd hst hN hci hn hrest (L_fit hL hdd h1 h2) (fun _ _ h => h.elim) (fun N' r h => by obtain ⟨rfl, rfl⟩ := h; exact kk)
theorem X_lvv {N1 : XH} {idx n d mc ms o ci nf : Nat} {T : u_T} {V : Nat → Value} {As rest : List Value} (hN : N o = some (.inl (ci, V))) (hk : x_LV RL idx n Mc) (hM : x_M G Mc d mc ms (.ref o :: As) N (x_RetV N1) x_noX) (hd : x_at (x_k mL_lw) pc = some (.invokevirtual idx, pc', t)) (hst : st = As.reverse ++ .ref o :: rest) (hci : vwCl[ci]? = some ((x_y Mc).cls, T, nf)) (hn : As.length = n) (hrest : (rest.map fun v => v.category).sum ≤ 8) (hL : x_nL Mc ≤ 81) (hdd : d ≤ 800) (h1 : cells + mc ≤ 604330) (h2 : slots + ms ≤ 7288780) (kk : x_W G mL_lw (L_Z G ad0 nb0) N1 (cells + mc) (slots + ms) pc' L rest) : x_W G mL_lw (L_Z G ad0 nb0) N cells slots pc L st :=
  X_callV (T := T) (nf := nf) hk hM hd hst hN hci hn hrest (L_fit hL hdd h1 h2) (fun _ _ h => h.elim) (fun N' r h => by obtain ⟨rfl, rfl⟩ := h; exact kk)
theorem X_lvP {idx n d mc ms o ci nf : Nat} {T : u_T} {V : Nat → Value} {As rest : List Value} {Q : XH → Option Value → Prop} {X : XH → String → Prop} (hN : N o = some (.inl (ci, V))) (hk : x_LV RL idx n Mc) (hM : x_M G Mc d mc ms (.ref o :: As) N Q X) (hd : x_at (x_k mL_lw) pc = some (.invokevirtual idx, pc', t)) (hst : st = As.reverse ++ .ref o :: rest) (hci : vwCl[ci]? = some ((x_y Mc).cls, T, nf)) (hn : As.length = n) (hrest : (rest.map fun v => v.category).sum ≤ 8) (hL : x_nL Mc ≤ 81) (hdd : d ≤ 800) (h1 : cells + mc ≤ 604330) (h2 : slots + ms ≤ 7288780) (kx : ∀ N' E, X N' E → False) (kk : ∀ (N' : XH) (r : Option Value), Q N' r → x_W G mL_lw (L_Z G ad0 nb0) N' (cells + mc) (slots + ms) pc' L (r.toList ++ rest)) : x_W G mL_lw (L_Z G ad0 nb0) N cells slots pc L st :=
  X_callV (T := T) (nf := nf) hk hM hd hst hN hci hn hrest (L_fit hL hdd h1 h2) (fun N' E h => (kx N' E h).elim) kk
theorem X_ls {N1 : XH} {idx n d mc ms : Nat} {As rest : List Value} {v : Value} (hk : x_LS RL idx n Mc) (hM : x_M G Mc d mc ms As N (x_Ret N1 v) x_noX) (hd : x_at (x_k mL_lw) pc = some (.invokestatic idx, pc', t)) (hst : st = As.reverse ++ rest) (hn : As.length = n) (hrest : (rest.map fun v => v.category).sum ≤ 8) (hL : x_nL Mc ≤ 81) (hdd : d ≤ 800) (h1 : cells + mc ≤ 604330) (h2 : slots + ms ≤ 7288780) (kk : x_W G mL_lw (L_Z G ad0 nb0) N1 (cells + mc) (slots + ms) pc' L (v :: rest)) : x_W G mL_lw (L_Z G ad0 nb0) N cells slots pc L st :=
  X_callS hk hM hd hst hn hrest (L_fit hL hdd h1 h2) (fun _ _ h => h.elim) (fun N' r h => by obtain ⟨rfl, rfl⟩ := h; exact kk)
theorem X_lsP {idx n d mc ms : Nat} {As rest : List Value} {Q : XH → Option Value → Prop} (hk : x_LS RL idx n Mc) (hM : x_M G Mc d mc ms As N Q x_noX) (hd : x_at (x_k mL_lw) pc = some (.invokestatic idx, pc', t)) (hst : st = As.reverse ++ rest) (hn : As.length = n) (hrest : (rest.map fun v => v.category).sum ≤ 8) (hL : x_nL Mc ≤ 81) (hdd : d ≤ 800) (h1 : cells + mc ≤ 604330) (h2 : slots + ms ≤ 7288780) (kk : ∀ (N' : XH) (r : Option Value), Q N' r → x_W G mL_lw (L_Z G ad0 nb0) N' (cells + mc) (slots + ms) pc' L (r.toList ++ rest)) : x_W G mL_lw (L_Z G ad0 nb0) N cells slots pc L st :=
  X_callS hk hM hd hst hn hrest (L_fit hL hdd h1 h2) (fun _ _ h => h.elim) kk
end LAW
theorem v_cell {G : XE} (hG : x_Kn G) {N : XH} (d : Nat) {n k : Nat} {xs : Nat → Int32} (h56 : N 56 = some (.inr (false, .int, n, fun j => .int (xs j)))) (hn : n < 2147483648) (hk : k < 1000) : x_M G mL_cell d 0 0 [.ref 56, .int (nI k)] N (x_Ret N (.int (e_cell n xs k))) x_noX := by
  refine X_M hG okL_cell rfl (L := [some (.ref 56), some (.int (nI k))]) rfl (Nat.le_of_ble_eq_true rfl) (fun ad0 nb0 => ?_)
  refine X_ld rfl rfl rfl rfl ?_
  refine X_ld rfl rfl rfl rfl ?_
  refine X_alen rfl h56 ?_
  refine X_icmp_ge rfl (fun c => ?_) (fun c => ?_)
  · have h1 : ¬ k < n := Nat.not_lt.mpr ((n_le (show Int32.ofNat n = nI n from rfl) rfl hn (by omega)).mp c)
    refine X_push (v := .int 0) rfl (by decide +kernel) ?_
    exact X_iret rfl rfl ⟨rfl, congrArg (fun q => some (Value.int q)) (if_neg h1).symm⟩ (Nat.le_of_ble_eq_true rfl) (Nat.le_of_ble_eq_true rfl)
  · have h1 : k < n := Nat.not_le.mp (fun q => c ((n_le (show Int32.ofNat n = nI n from rfl) rfl hn (by omega)).mpr q))
    refine X_ld rfl rfl rfl rfl ?_
    refine X_ld rfl rfl rfl rfl ?_
    refine X_iald rfl h56 (vp_in_nI h1 hn) (v := .int (xs k)) (by rw [nI_clamp (by omega)]) ?_
    refine X_goto rfl ?_
    exact X_iret rfl rfl ⟨rfl, congrArg (fun q => some (Value.int q)) (if_pos h1).symm⟩ (Nat.le_of_ble_eq_true rfl) (Nat.le_of_ble_eq_true rfl)
def q_vL : Nat → Value := updV (updV (updV (updV (y_dfl tyL) 0 (.ref 276)) 1 (.ref 277)) 15 (.int 100)) 18 (.int (-2))
def q_aZ : XC := .inr (true, .int, 40, fun _ => .int 0)
theorem v_initL {G : XE} (hG : x_Kn G) {N : XH} (d : Nat) : x_M G mL_init (d + 1) 2 80 [.ref 275] (k_at N 275 [.inl (11, y_dfl tyL)]) (x_RetV (k_at N 275 [.inl (11, q_vL), q_aZ, q_aZ])) x_noX := by
  have ha : 64 ≤ 275 := by decide
  refine X_M hG okL_init rfl (L := [some (.ref 275)]) rfl (Nat.le_of_ble_eq_true rfl) (fun ad0 nb0 => ?_)
  refine X_ld rfl rfl rfl rfl ?_
  refine X_obj ob_L ob_i ob_c rfl (by show 1 ≤ d + _; omega) (by show _ ≤ 100 * (d + _); simp; omega) ?_
  refine X_ld rfl rfl rfl rfl ?_
  refine X_push (v := .int 40) rfl (by decide +kernel) ?_
  refine X_newaK 40 rfl rfl (List.mem_of_getElem? (i := 0) rfl) ia_T (by decide) (by decide +kernel) (by decide) (Nat.le_of_ble_eq_true rfl) (Nat.le_of_ble_eq_true rfl) (Z_new ha 276 rfl ?_)
  refine Z_putF (j := 0) ha f_L_7 rfl rfl ⟨rfl, rfl⟩ rfl (fun C T n h => by cases h; rfl) ?_
  refine X_ld rfl rfl rfl rfl ?_
  refine X_push (v := .int 40) rfl (by decide +kernel) ?_
  refine X_newaK 40 rfl rfl (List.mem_of_getElem? (i := 0) rfl) ia_T (by decide) (by decide +kernel) (by decide) (Nat.le_of_ble_eq_true rfl) (Nat.le_of_ble_eq_true rfl) (Z_new ha 277 rfl ?_)
  refine Z_putF (j := 0) ha f_L_13 rfl rfl ⟨rfl, rfl⟩ rfl (fun C T n h => by cases h; rfl) ?_
  refine X_ld rfl rfl rfl rfl ?_
  refine X_push (v := .int 100) rfl (by decide +kernel) ?_
  refine Z_put (j := 0) ha f_L_16 rfl rfl ⟨rfl, rfl⟩ ?_
  refine X_ld rfl rfl rfl rfl ?_
  refine X_push (v := .int (-2)) rfl (by decide +kernel) ?_
  refine Z_put (j := 0) ha f_L_20 rfl rfl ⟨rfl, rfl⟩ ?_
  exact X_vret rfl rfl ⟨rfl, rfl⟩ (Nat.le_of_ble_eq_true rfl) (Nat.le_of_ble_eq_true rfl)
theorem law_C {G : XE} (hG : x_Kn G) (hX : x_KX G) (hK : x_KS G) {ad0 : Nat → Nat} {B0 : XH} (hB : e_B0 B0) {F A C J bf K tk ts : Nat → Int32} {tl : Int64} {tv : Nat → Int64} {su : Nat → Nat} {D : Nat → Nat → Int32} (w : Nat) (hw : J 5 = nI w) (hw10 : w < 10) {e : Nat → Int32} {l : Bool} {oo : Nat} (hm : md e (e_ana F A (s_lm e)) A C l oo) (hl : L_lv B0 0 e (D w) (su w)) (hF : F 2 = nI (s_lm e)) (h40 : s_lm e ≤ 40) (hk : e_kp (e_ana F A (s_lm e))) {n : Nat} {xs : Nat → Int32} (h56 : B0 56 = some (.inr (false, .int, n, fun j => .int (xs j)))) (hn : n < 2147483648) {o : Nat} : x_W G mL_lw (L_Z G ad0 64) (cset (e_B B0 F A C) J bf K tk ts tl tv su D) (6000) (250000) 345 [some (.ref 56), some (.ref 275), some (.int (b2 l)), some (.int (nI oo)), some (.ref o), some (.ref 64), none] [] := by
  have hst : st_at (e_B B0 F A C) e (su w) := y_le.st (e_B_le hB) hl.2.2.1
  have hwf := hl.1.1
  have hs : (0 : Int32) ≤ 0 ∧ (0 : Int32) < nI (s_sm e) := by rw [hm.sm]; decide
  refine X_ld aL_345 rfl rfl rfl ?_
  refine X_push (v := .int 0) aL_347 (by decide +kernel) ?_
  refine X_push (v := .int 0) aL_348 (by decide +kernel) ?_
  refine X_lvP c_O l_L_X10_hole (m_hole hG hX 20 w hw hw10 hst hwf (x := 0) (y := 0)) aL_349 rfl rfl rfl (Nat.le_of_ble_eq_true rfl) (Nat.le_of_ble_eq_true rfl) (by omega) (by omega) (by omega) (fun N9 E9 h9 => h9.2.elim (fun q => absurd hs q.1) (fun q => absurd (show (0 : Int32) ≤ 0 ∧ (0 : Int32) < 4 by decide) q.2.1)) (fun N9 r9 h9 => ?_)
  obtain ⟨-, rfl, rfl⟩ := h9
  refine X_stk (st' := [.int (0)]) (congrArg (fun z => [Value.int z]) hm.f292) ?_
  refine X_if_ne aL_352 (fun c => absurd rfl c) (fun _ => ?_)
  refine X_ld aL_355 rfl rfl rfl ?_
  refine X_push (v := .int 0) aL_357 (by decide +kernel) ?_
  refine X_push (v := .int 1) aL_358 (by decide +kernel) ?_
  refine X_lvP c_O l_L_X10_hole (m_hole hG hX 20 w hw hw10 hst hwf (x := 0) (y := 1)) aL_359 rfl rfl rfl (Nat.le_of_ble_eq_true rfl) (Nat.le_of_ble_eq_true rfl) (by omega) (by omega) (by omega) (fun N9 E9 h9 => h9.2.elim (fun q => absurd hs q.1) (fun q => absurd (show (0 : Int32) ≤ 1 ∧ (1 : Int32) < 4 by decide) q.2.1)) (fun N9 r9 h9 => ?_)
  obtain ⟨-, rfl, rfl⟩ := h9
  refine X_stk (st' := [.int (-1)]) (congrArg (fun z => [Value.int z]) hm.f293) ?_
  refine X_push (v := .int (-1)) aL_362 (by decide +kernel) ?_
  refine X_icmp_eq aL_363 (fun _ => ?_) (fun c => absurd rfl c)
  refine X_ld aL_368 rfl rfl rfl ?_
  refine X_heap (e_N_self e_C_5) ?_
  refine X_lvv x_set_eq l_L_L_analyze (v_ana hG 20 e_C_6 hF h40) aL_369 rfl rfl rfl (Nat.le_of_ble_eq_true rfl) (Nat.le_of_ble_eq_true rfl) (by omega) (by omega) (by omega) ?_
  refine X_heap e_C_F ?_
  refine X_ld aL_372 rfl rfl rfl ?_
  refine X_ld aL_373 rfl rfl rfl ?_
  refine X_lv e_C_5 l_L_L_isAlike (v_alike hG hX 20 w hw hw10 hm hl (e_B_le hB) e_B_5) aL_375 rfl rfl rfl (Nat.le_of_ble_eq_true rfl) (Nat.le_of_ble_eq_true rfl) (by omega) (by omega) (by omega) ?_
  refine X_if_ne aL_378 (fun _ => ?_) (fun c => absurd c (by decide))
  refine X_push (v := .int 0) aL_383 (by decide +kernel) ?_
  refine X_st aL_384 rfl rfl ?_
  have loop : ∀ f k N, k + f = 12 → e_S B0 l oo k N → x_W G mL_lw (L_Z G ad0 64) N (6100 + 200 * k) (260000 + 1000 * k) 386 [some (.ref 56), some (.ref 275), some (.int (b2 l)), some (.int (nI oo)), some (.ref o), some (.ref 64), some (.int (nI k))] [] := fun f => by
    induction f with
    | zero =>
      intro k N e0 hS
      obtain rfl : k = 12 := by omega
      refine X_ld aL_386 rfl rfl rfl ?_
      refine X_push (v := .int 12) aL_388 (by decide +kernel) ?_
      refine X_icmp_ge aL_390 (fun _ => ?_) (fun c => absurd (by decide) c)
      refine X_push (v := .int 1) aL_421 (by decide +kernel) ?_
      exact X_Lret (pc := 422) (by decide +kernel) (by omega) (by omega)
    | succ f ih =>
      intro k N e0 hS
      refine X_ld aL_386 rfl rfl rfl ?_
      refine X_push (v := .int 12) aL_388 (by decide +kernel) ?_
      refine X_icmp_ge aL_390 (fun c => absurd ((n_le (a := 12) (show (12 : Int32) = nI 12 from rfl) rfl (by omega) (by omega)).mp c) (by omega)) (fun _ => ?_)
      obtain ⟨F1, A1, C1, J1, bf1, K1, tk1, ts1, tl1, tv1, su1, D1, w1, e1, rfl, ⟨hw1, hw11⟩, hm1, hl1, hk1⟩ := hS
      refine X_ld aL_393 rfl rfl rfl ?_
      refine X_ld aL_394 rfl rfl rfl ?_
      refine X_ld aL_396 rfl rfl rfl ?_
      refine X_push (v := .int 10) aL_397 (by decide +kernel) ?_
      refine X_ld aL_399 rfl rfl rfl ?_
      refine X_bin aL_401 rfl ?_
      refine X_stk (st' := [.int (nI (10 + k)), .ref 56, .ref 64, .ref 275]) (congrArg (fun z => [Value.int z, .ref 56, .ref 64, .ref 275]) (nI_add 10 k)) ?_
      refine X_ls l_L_L_cell (v_cell hG 20 (c_B ⟨by decide, by decide⟩ ((e_B_o (by decide)).trans h56)) hn (k := 10 + k) (by omega)) aL_402 rfl rfl (Nat.le_of_ble_eq_true rfl) (Nat.le_of_ble_eq_true rfl) (by omega) (by omega) (by omega) ?_
      refine X_ld aL_405 rfl rfl rfl ?_
      refine X_ld aL_406 rfl rfl rfl ?_
      refine X_lvP e_C_5 l_L_L_step (v_step hG hX hK hB 20 w1 hw1 hw11 hm1 hl1 hk1 (by omega)) aL_407 rfl rfl rfl (Nat.le_of_ble_eq_true rfl) (Nat.le_of_ble_eq_true rfl) (by omega) (by omega) (by omega) (fun N9 E9 h9 => h9) (fun N9 r9 h9 => ?_)
      obtain ⟨rfl, hS9⟩ := h9
      refine X_if_ne aL_410 (fun _ => ?_) (fun c => absurd c (by decide))
      refine X_iinc aL_415 rfl rfl ?_
      refine X_goto aL_418 ?_
      refine X_loc (L' := [some (.ref 56), some (.ref 275), some (.int (b2 l)), some (.int (nI oo)), some (.ref o), some (.ref 64), some (.int (nI (k + 1)))]) ⟨rfl, rfl, rfl, rfl, rfl, rfl, congrArg Value.int (m_inc rfl).symm, trivial⟩ ?_
      exact X_room (by omega) (by omega) (ih (k + 1) N9 (by omega) hS9)
  refine X_loc (L' := [some (.ref 56), some (.ref 275), some (.int (b2 l)), some (.int (nI oo)), some (.ref o), some (.ref 64), some (.int (nI 0))]) ⟨rfl, rfl, rfl, rfl, rfl, rfl, rfl, trivial⟩ ?_
  exact X_room (by omega) (by omega) (loop 12 0 _ rfl ⟨_, _, _, _, _, _, _, _, _, _, _, _, _, _, rfl, ⟨hw, hw10⟩, hm, hl, hk⟩)
