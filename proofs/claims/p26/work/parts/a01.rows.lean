/-! ===== rows that a StringBuilder wants: inherited, private and super calls, bytes copied and cloned ===== -/
/-- a private method of the class that z stands in, called on an object of class C -/
theorem x_selp {args : Array Value} {s : State} {C : String} {y z : MethodName} (hc : z.cls = y.cls) (hy : y.cls ≠ "java/lang/invoke/MethodHandle" ∧ y.cls ≠ "java/lang/invoke/VarHandle") (hz : (Cond.selects C z z).before args s = true) (hpriv : (Cond.privateMethod y).before args s = true) (hinst : (Cond.instanceMethod y).before args s = true) : (Cond.selects C y y).before args s = true := by
  obtain ⟨c, r, mz, h1, h2, h3, h4, kP, hkP, hkPi⟩ := Cond.selects_spec hz
  obtain ⟨mk, methM, hnamed, hmethM, -, -⟩ := Cond.instanceMethod_spec hinst
  have hfound : s.methodFound? y.cls y.name y.desc = some mk := State.methodFound?_of_named hnamed hy
  have e1 := findClass_of_methodNamed h3
  have e2 := findClass_of_methodNamed hnamed
  have hcls : mz.cls = mk.cls := by
    rw [hc] at e1
    exact Option.some.inj (e1.symm.trans e2)
  have hsel : selectMethod {} s.vm c mk = .method mk := selectMethod_private hmethM (Cond.privateMethod_at hpriv mk methM hnamed hmethM)
  rw [hcls] at hkP
  simp only [Cond.before, Cond.holds, Cond.value, h1, hfound, hnamed, hsel, hkP]
  simp
  exact hkPi
theorem x_warmP {x : MethodName} {s U : State} (hW : s.WarmedH U.vm) (hZ : va_Nw (.privateMethod x) s) : va_Nw (.privateMethod x) U := va_tabs rfl (rfl : (s.setVm U.vm).vm = U.vm) (by rw [Cond.privateMethod_setVm hW.alike]; exact hZ)
/-- a call of x on an object of class C, which goes to Mc -/
def x_LG (own : String) (idx n : Nat) (C : String) (x : MethodName) (Mc : XMI) : Prop :=
  x_Cw Mc n ∧ x_hh Mc = [] ∧ Cond.methodLink own idx x ∈ x_T ∧ Cond.sameMethod x.cls x.cls x.name x.desc ∈ x_T ∧ Cond.instanceMethod (x_y Mc) ∈ x_T ∧ (x.cls ≠ "java/lang/invoke/MethodHandle" ∧ x.cls ≠ "java/lang/invoke/VarHandle") ∧ x.desc = (x_y Mc).desc ∧ ∀ (args : Array Value) (s : State), (∀ w ∈ x_T, w.before args s = true) → (∀ y, Cond.privateMethod y ∈ lw_tbl → (Cond.privateMethod y).before args s = true) → (Cond.selects C x (x_y Mc)).before args s = true ∧ va_Decl s ⟨x.cls, x.name, x.desc⟩
/-- super.m(..) -/
def x_LSU (own : String) (idx n : Nat) (Mc : XMI) : Prop :=
  x_Cw Mc n ∧ x_hh Mc = [] ∧ Cond.methodLink own idx (x_y Mc) ∈ x_T ∧ Cond.sameMethod (x_y Mc).cls (x_y Mc).cls (x_y Mc).name (x_y Mc).desc ∈ x_T ∧ Cond.superclass own (x_y Mc).cls ∈ x_T ∧ Cond.instanceMethod (x_y Mc) ∈ x_T ∧ (x_y Mc).name ≠ "<init>"
section XRG
variable {G : XE} {M Mc : XMI} {Z : XZ} {N : XH} {cells slots pc pc' t : Nat} {L : List (Option Value)}
theorem X_callG {idx n d mc ms o ci nf : Nat} {C : String} {x : MethodName} {T : u_T} {V : Nat → Value} {st As rest : List Value} {Qn : XH → Option Value → Prop} (hk : x_LG (x_own M) idx n C x Mc) (hM : x_M G Mc d mc ms (.ref o :: As) N Qn x_noX)
    (hd : x_at (x_k M) pc = some (.invokevirtual idx, pc', t)) (hst : st = As.reverse ++ .ref o :: rest) (hN : N o = some (.inl (ci, V))) (hci : vwCl[ci]? = some (C, T, nf)) (hn : As.length = n) (hrest : (rest.map fun v => v.category).sum ≤ 8) (hfit : x_fit Z cells slots Mc d mc ms)
    (kk : ∀ (N' : XH) (r : Option Value), Qn N' r → x_W G M Z N' (cells + mc) (slots + ms) pc' L (r.toList ++ rest)) : x_W G M Z N cells slots pc L st := by
  intro p e s m args below meth c ad nb H locs ls B hR hnb he hS hl hvs
  obtain ⟨hx, hb, hml, hr, hlk, hown, hts, hW, hkp, htb, hnm, hKn, hok⟩ := id B
  obtain ⟨d1, e1⟩ := x_decn hok hd (n := 2) rfl
  subst e1
  subst hst
  obtain ⟨hw, hh, hk1, hk2, hk4, hk6, hk7, hk8⟩ := hk
  obtain ⟨hw1, hw2, hw3, hw4⟩ := id hw
  rw [hh] at hw1
  have hvA : ∀ v ∈ Value.ref o :: As, x_vok nb v := fun v hv => hvs v (by
    rcases List.mem_cons.mp hv with h | h
    · exact List.mem_append_right _ (by rw [h]; exact List.mem_cons_self)
    · exact List.mem_append_left _ (List.mem_reverse.mpr h))
  have hvR : ∀ v ∈ rest, x_vok nb v := fun v hv => hvs v (List.mem_append_right _ (List.mem_cons_of_mem _ hv))
  obtain ⟨-, g1, g2, g3, r, g4, cell, q1, q2, q3, q4⟩ := x_R_obj hR hN hci
  have hcl := (u_Kn_moved hW.alike (hKn.1 ci _ hci)).2.1
  obtain ⟨hsel, hdec⟩ := hk8 args s hts (fun y hy => va_Nw.use rfl (x_warmP hW (hKn.2.2.1.1 _ hy rfl)))
  have hrun := va_runU (x := x) (owner := x.cls) (rest := rest.map (x_tr ad)) (As := As.map (x_tr ad)) (b := ad o) (C := C) (nL := x_nL M) (g := F0 m pc ls ((As.reverse ++ .ref o :: rest).map (x_tr ad))) (cells := cells) (slots := slots) (e := e) (below := below) (meth := meth) (locs := locs) ⟨hx, hb, hml, hown, hts⟩ (x_Met (hM ad nb))
    ⟨⟨rfl, rfl, hfit.1, hfit.2.1, x_pay hts hw, by unfold x_ws; rw [hh]; exact List.mem_cons_self⟩, hts _ hw1, hts _ hw2, hk6, by rw [hk7]; exact x_len_of hw4, hts _ hk1, hts _ hk2, hdec, hsel, hts _ hk4⟩
    ⟨x_blind, ⟨cell, q1, by rw [q3]; rfl, by rw [q2]; exact hcl⟩, fun U hU hWU => x_pre B hR hS hvA U hU hWU⟩
    rfl (by rw [List.length_map]; exact hn) hl.1.1 (x_map_split rfl) (lv_room (by rw [x_cat_sum]; exact hrest)) d1 ⟨hfit.2.2.1, hfit.2.2.2⟩
  exact x_back0 (Qn := Qn) hrun B hnb he hS hl hvR kk
theorem X_callSU {idx n d mc ms o ci nf : Nat} {C : String} {T : u_T} {V : Nat → Value} {st As rest : List Value} {Qn : XH → Option Value → Prop} (hk : x_LSU (x_own M) idx n Mc) (hM : x_M G Mc d mc ms (.ref o :: As) N Qn x_noX)
    (hd : x_at (x_k M) pc = some (.invokespecial idx, pc', t)) (hst : st = As.reverse ++ .ref o :: rest) (hN : N o = some (.inl (ci, V))) (hci : vwCl[ci]? = some (C, T, nf)) (hn : As.length = n) (hrest : (rest.map fun v => v.category).sum ≤ 8) (hfit : x_fit Z cells slots Mc d mc ms)
    (kk : ∀ (N' : XH) (r : Option Value), Qn N' r → x_W G M Z N' (cells + mc) (slots + ms) pc' L (r.toList ++ rest)) : x_W G M Z N cells slots pc L st := by
  intro p e s m args below meth c ad nb H locs ls B hR hnb he hS hl hvs
  obtain ⟨hx, hb, hml, hr, hlk, hown, hts, hW, hkp, htb, hnm, hKn, hok⟩ := id B
  obtain ⟨d1, e1⟩ := x_decn hok hd (n := 2) rfl
  subst e1
  subst hst
  obtain ⟨hw, hh, hk1, hk2, hk3, hk4, hk5⟩ := hk
  obtain ⟨hw1, hw2, hw3, hw4⟩ := id hw
  rw [hh] at hw1
  have hvA : ∀ v ∈ Value.ref o :: As, x_vok nb v := fun v hv => hvs v (by
    rcases List.mem_cons.mp hv with h | h
    · exact List.mem_append_right _ (by rw [h]; exact List.mem_cons_self)
    · exact List.mem_append_left _ (List.mem_reverse.mpr h))
  have hvR : ∀ v ∈ rest, x_vok nb v := fun v hv => hvs v (List.mem_append_right _ (List.mem_cons_of_mem _ hv))
  obtain ⟨-, g1, g2, g3, r, g4, cell, q1, q2, q3, q4⟩ := x_R_obj hR hN hci
  have hcl := (u_Kn_moved hW.alike (hKn.1 ci _ hci)).2
  have hrun := va_runSU (C := C) (rest := rest.map (x_tr ad)) (As := As.map (x_tr ad)) (b := ad o) (nL := x_nL M) (g := F0 m pc ls ((As.reverse ++ .ref o :: rest).map (x_tr ad))) (cells := cells) (slots := slots) (e := e) (below := below) (meth := meth) (locs := locs) hcl ⟨hx, hb, hml, hown, hts⟩ (x_Met (hM ad nb))
    ⟨⟨rfl, rfl, hfit.1, hfit.2.1, x_pay hts hw, by unfold x_ws; rw [hh]; exact List.mem_cons_self⟩, hts _ hk1, hts _ hk2, hts _ hk3, hts _ hk4, hts _ hw2, hts _ hw1, hk5, x_len_of hw4⟩
    ⟨x_blind, ⟨cell, q1, by rw [q3]; rfl, by rw [q2]; exact hcl.1⟩, fun U hU hWU => x_pre B hR hS hvA U hU hWU⟩
    rfl (by rw [List.length_map]; exact hn) hl.1.1 (x_map_split rfl) (lv_room (by rw [x_cat_sum]; exact hrest)) d1 ⟨hfit.2.2.1, hfit.2.2.2⟩
  exact x_back0 (Qn := Qn) hrun B hnb he hS hl hvR kk
/-- a new cell: its name lies above all others -/
theorem x_K_top {st : List Value} {c : XC} (h0 : N 0 = none) (kk : ∀ q, N q = none → 64 ≤ q → (∀ j b, N j = some b → j < q) → x_W G M Z (x_set N q c) cells slots pc L (.ref q :: st)) : x_K G M Z N cells slots pc L st c := by
  intro p e s m args below meth co ad nb H H1 locs ls B hR hn he hS hl hvs hc hcell z2 z3
  obtain ⟨r1, r2⟩ := x_R_new hR h0 rfl hc hcell z3
  have ex := x_adn_ext ad nb H.size
  have K := kk nb r2 hR.2.2.2.1 (fun j b hj => (hR.1 j b (fun e => by rw [e, h0] at hj; cases hj) hj).1) p e s m args below meth co (x_adn ad nb H.size) (nb + 1) H1 locs ls B r1 (Nat.le_succ_of_le hn) (fun k hk => (ex k (Nat.lt_of_lt_of_le hk hn)).trans (he k hk)) (x_S_new hS z2 z3) (x_L_ext ex (Nat.le_succ _) hl) (List.forall_mem_cons.mpr ⟨Nat.lt_succ_self nb, fun v hv => x_vok_mono (Nat.le_succ _) (hvs v hv)⟩)
  have e1 : x_tr (x_adn ad nb H.size) (.ref nb) = .ref H.size := congrArg Value.ref (show x_adn ad nb H.size nb = H.size by unfold x_adn; rw [if_pos rfl])
  rw [List.map_cons, x_map_ext ex hvs, e1] at K
  exact K
theorem X_ineg {x : Int32} {st : List Value} (hd : x_at (x_k M) pc = some (.ineg, pc', t)) (kk : x_W G M Z N cells slots pc' L (.int (-x) :: st)) : x_W G M Z N cells slots pc L (.int x :: st) := by
  intro p e s m args below meth c ad nb H locs ls B hR hn he hS hl hvs
  obtain ⟨d1, e1⟩ := x_decn B.2.2.2.2.2.2.2.2.2.2.2.2 hd (n := 0) rfl
  subst e1
  exact lv_ineg B.1 B.2.1 d1 (kk p e s m args below meth c ad nb H locs ls B hR hn he hS hl (List.forall_mem_cons.mpr ⟨trivial, (List.forall_mem_cons.mp hvs).2⟩))
/-- the next name is chosen: above all others -/
theorem X_ghost {st : List Value} (h0 : N 0 = none) (kk : ∀ a, 64 ≤ a → (∀ j b, N j = some b → j < a) → x_W G M Z (x_set N 0 (x_gh a)) cells slots pc L st) : x_W G M Z N cells slots pc L st := by
  intro p e s m args below meth c ad nb H locs ls B hR hn he hS hl hvs
  exact kk nb hR.2.2.2.1 (fun j b hj => (hR.1 j b (fun e => by rw [e, h0] at hj; cases hj) hj).1) p e s m args below meth c ad nb H locs ls B (x_R_ghost hR (Nat.le_refl nb)) hn he hS hl hvs
end XRG
section XRB
variable {G : XE} {M Mc : XMI} {d mc ms nb0 : Nat} {ad0 : Nat → Nat} {Qn : XH → Option Value → Prop} {Qx : XH → String → Prop} {N : XH} {cells slots pc pc' t : Nat} {L : List (Option Value)} {st : List Value}
theorem X_gcall {idx n d' mc' ms' o ci nf : Nat} {C : String} {x : MethodName} {T : u_T} {V : Nat → Value} {As rest : List Value} {Q : XH → Option Value → Prop} (hk : x_LG (x_own M) idx n C x Mc) (hM : x_M G Mc d' mc' ms' (.ref o :: As) N Q x_noX) (hN : N o = some (.inl (ci, V))) (hci : vwCl[ci]? = some (C, T, nf))
    (hd : x_at (x_k M) pc = some (.invokevirtual idx, pc', t)) (hst : st = As.reverse ++ .ref o :: rest) (hn : As.length = n) (hrest : (rest.map fun v => v.category).sum ≤ 8) (hL : x_nL Mc ≤ 81) (hdd : d' + 1 ≤ d) (h1 : cells + mc' ≤ mc) (h2 : slots + ms' ≤ ms)
    (kk : ∀ (N' : XH) (r : Option Value), Q N' r → x_W G M (x_Z G d mc ms ad0 nb0 Qn Qx) N' (cells + mc') (slots + ms') pc' L (r.toList ++ rest)) : x_W G M (x_Z G d mc ms ad0 nb0 Qn Qx) N cells slots pc L st :=
  X_callG hk hM hd hst hN hci hn hrest (x_fit_of hL hdd h1 h2) kk
theorem X_gv {N1 : XH} {idx n d' mc' ms' o ci nf : Nat} {C : String} {x : MethodName} {T : u_T} {V : Nat → Value} {As rest : List Value} {v : Value} (hk : x_LG (x_own M) idx n C x Mc) (hM : x_M G Mc d' mc' ms' (.ref o :: As) N (x_Ret N1 v) x_noX) (hN : N o = some (.inl (ci, V))) (hci : vwCl[ci]? = some (C, T, nf))
    (hd : x_at (x_k M) pc = some (.invokevirtual idx, pc', t)) (hst : st = As.reverse ++ .ref o :: rest) (hn : As.length = n) (hrest : (rest.map fun v => v.category).sum ≤ 8) (hL : x_nL Mc ≤ 81) (hdd : d' + 1 ≤ d) (h1 : cells + mc' ≤ mc) (h2 : slots + ms' ≤ ms)
    (kk : x_W G M (x_Z G d mc ms ad0 nb0 Qn Qx) N1 (cells + mc') (slots + ms') pc' L (v :: rest)) : x_W G M (x_Z G d mc ms ad0 nb0 Qn Qx) N cells slots pc L st :=
  X_callG hk hM hd hst hN hci hn hrest (x_fit_of hL hdd h1 h2) (fun N' r h => by obtain ⟨rfl, rfl⟩ := h; exact kk)
theorem X_gvv {N1 : XH} {idx n d' mc' ms' o ci nf : Nat} {C : String} {x : MethodName} {T : u_T} {V : Nat → Value} {As rest : List Value} (hk : x_LG (x_own M) idx n C x Mc) (hM : x_M G Mc d' mc' ms' (.ref o :: As) N (x_RetV N1) x_noX) (hN : N o = some (.inl (ci, V))) (hci : vwCl[ci]? = some (C, T, nf))
    (hd : x_at (x_k M) pc = some (.invokevirtual idx, pc', t)) (hst : st = As.reverse ++ .ref o :: rest) (hn : As.length = n) (hrest : (rest.map fun v => v.category).sum ≤ 8) (hL : x_nL Mc ≤ 81) (hdd : d' + 1 ≤ d) (h1 : cells + mc' ≤ mc) (h2 : slots + ms' ≤ ms)
    (kk : x_W G M (x_Z G d mc ms ad0 nb0 Qn Qx) N1 (cells + mc') (slots + ms') pc' L rest) : x_W G M (x_Z G d mc ms ad0 nb0 Qn Qx) N cells slots pc L st :=
  X_callG hk hM hd hst hN hci hn hrest (x_fit_of hL hdd h1 h2) (fun N' r h => by obtain ⟨rfl, rfl⟩ := h; exact kk)
theorem X_sucall {idx n d' mc' ms' o ci nf : Nat} {C : String} {T : u_T} {V : Nat → Value} {As rest : List Value} {Q : XH → Option Value → Prop} (hk : x_LSU (x_own M) idx n Mc) (hM : x_M G Mc d' mc' ms' (.ref o :: As) N Q x_noX) (hN : N o = some (.inl (ci, V))) (hci : vwCl[ci]? = some (C, T, nf))
    (hd : x_at (x_k M) pc = some (.invokespecial idx, pc', t)) (hst : st = As.reverse ++ .ref o :: rest) (hn : As.length = n) (hrest : (rest.map fun v => v.category).sum ≤ 8) (hL : x_nL Mc ≤ 81) (hdd : d' + 1 ≤ d) (h1 : cells + mc' ≤ mc) (h2 : slots + ms' ≤ ms)
    (kk : ∀ (N' : XH) (r : Option Value), Q N' r → x_W G M (x_Z G d mc ms ad0 nb0 Qn Qx) N' (cells + mc') (slots + ms') pc' L (r.toList ++ rest)) : x_W G M (x_Z G d mc ms ad0 nb0 Qn Qx) N cells slots pc L st :=
  X_callSU hk hM hd hst hN hci hn hrest (x_fit_of hL hdd h1 h2) kk
/-- System.arraycopy out of a frozen array -/
theorem X_copyz {idx a b n0 n1 : Nat} {ty : FieldType} {f g : Nat → Int32} {sp dp n : Int32} (hl : x_Lcpy (x_own M) idx) (hd : x_at (x_k M) pc = some (.invokestatic idx, pc', t)) (ha : a < 64) (hT0 : va_T ty (x_ad G a) n0 (fun j => .int (f j)) (x_A G) (x_S G) (x_S G).heap) (hN1 : N b = some (.inr (true, ty, n1, fun j => .int (g j)))) (hprim : refKind ty = false) (hfit : ∀ j, j < n0 → fits ty (.int (f j)) = true) (h1 : ¬ sp < 0) (h2 : ¬ dp < 0) (h3 : ¬ n < 0) (h4 : sp.toNatClampNeg + n.toNatClampNeg ≤ n0) (h5 : dp.toNatClampNeg + n.toNatClampNeg ≤ n1) (hf : 1 ≤ d) (hs : (st.map fun v => v.category).sum ≤ 80) (kk : x_W G M (x_Z G d mc ms ad0 nb0 Qn Qx) (x_set N b (.inr (true, ty, n1, fun j => .int (va_cpy f g sp.toNatClampNeg dp.toNatClampNeg n.toNatClampNeg j)))) cells slots pc' L st) : x_W G M (x_Z G d mc ms ad0 nb0 Qn Qx) N cells slots pc L (.int n :: .int dp :: .ref b :: .int sp :: .ref a :: st) := by
  have nn : ∀ z : Int32, ¬ z < 0 → z.toInt = (z.toNatClampNeg : Int) := by
    intro z hz
    have hz0 : (0 : Int) ≤ z.toInt := by
      have := Int32.not_lt.mp hz
      simpa using Int32.le_iff_toInt_le.mp this
    show z.toInt = ((z.toInt.toNat : Nat) : Int)
    omega
  intro p e s m args below meth c ad nb H locs ls B hR hnb he hS hl0 hvs
  obtain ⟨hx, hb, hml, hr, hlk, hown, hts, hW, hkp, htb, hnm, hKn, hok⟩ := id B
  obtain ⟨d1, e1⟩ := x_decn hok hd (n := 2) rfl
  subst e1
  obtain ⟨l1, l2, l3, l4⟩ := hl
  have ea : x_ad G a = ad a := (hR.2.2.1 _ ha).symm
  rw [ea] at hT0
  obtain ⟨cs, c1, c2, c3, c4, c5, c6, c7⟩ := (va_T.moved hW.alike hT0).kept (x_fzq hkp)
  have hc0 : H[ad a]? = some cs := by rw [hS.2.1 _ (Array.getElem?_eq_some_iff.mp c1).1 c7]; exact c1
  obtain ⟨ho, g1, g2, g3, g4, g5⟩ := x_R_arr hR hN1
  have hc1 : H[ad b]? = some (arrV (G.2.2.2.2.1 ty) n1 (fun j => .int (g j))) := g5
  have hA : x_A G (ad b) := g3 rfl
  obtain ⟨hn0, k0, hk0, cm0, hkk0⟩ := c2
  obtain ⟨-, k1, hk1, cm1, hkk1⟩ := arrOfT_moved hW.alike (hKn.2.1 _ g4).1 n1 (fun j => .int (g j))
  intro T hT X
  obtain ⟨vm', X', step⟩ := X.arraycopy hx hown (hts _ l1) (hts _ l2) (hts _ l3) (hts _ l4) (src := ad a) (dst := ad b) (cs := cs) (cd := arrV (G.2.2.2.2.1 ty) n1 (fun j => .int (g j))) (srcPos := sp) (destPos := dp) (n := n) (by rw [hT]; exact hc0) (by rw [hT]; exact hc1)
    hn0 (fun _ h => by cases h) c3 (fun h => by cases h) hk0 hk1 hkk0 hkk1 (by simp [hprim]) h1 h2 h3
    (by rw [nn sp h1, nn n h3]; omega)
    (by rw [nn dp h2, nn n h3, arrV_size]; omega)
    (fun vm₁ _ i hi => by
      have e : cs.slots.getD (sp.toNatClampNeg + i) .null = .int (f (sp.toNatClampNeg + i)) := by
        rw [Array.getD_eq_getD_getElem?, c6 _ (by omega)]
        rfl
      refine ⟨?_, ?_⟩
      · rw [e]
        exact hfit _ (by omega)
      · rw [e]
        exact trivial)
    (g := F0 m pc ls (.int n :: .int dp :: .ref (ad b) :: .int sp :: .ref (ad a) :: st.map (x_tr ad))) rfl (by show ls.size = _; exact (hml.trans hl0.1.1.symm).symm) (rest := st.map (x_tr ad)) rfl (by rw [hb]; exact d1) hf (by
      have h18 : nativeFrameWords "java/lang/System" "arraycopy" 5 = 7 := by decide +kernel
      show 2 * 0 + ((st.map (x_tr ad)).map fun v => v.category).sum + _ ≤ 100 * d
      rw [x_cat_sum, h18]
      omega)
  have ec : copied cs (arrV (G.2.2.2.2.1 ty) n1 (fun j => .int (g j))) sp dp n = arrV (G.2.2.2.2.1 ty) n1 (fun j => .int (va_cpy f g sp.toNatClampNeg dp.toNatClampNeg n.toNatClampNeg j)) := va_copiedX (fun z => .int z) cs _ f g c6 h4
  rw [ec] at X' step
  have hlt : ad b < H.size := (Array.getElem?_eq_some_iff.mp hc1).1
  generalize hcn : arrV (G.2.2.2.2.1 ty) n1 (fun j => Value.int (va_cpy f g sp.toNatClampNeg dp.toNatClampNeg n.toNatClampNeg j)) = cn at X' step
  have hheap : ((T.setVm vm').setCell (ad b) cn).heap = H.setIfInBounds (ad b) cn := by rw [← hT]; rfl
  have oq : ∀ q : Nat, q ≠ ad b → (H.setIfInBounds (ad b) cn)[q]? = H[q]? := fun q hq => by simp [Array.getElem?_setIfInBounds, Ne.symm hq]
  obtain ⟨t, a1, b1⟩ := kk p e s m args below meth c ad nb (H.setIfInBounds (ad b) cn) _ ls B
    (x_R_put hR ho hN1 (c' := .inr (true, ty, n1, fun j => .int (va_cpy f g sp.toNatClampNeg dp.toNatClampNeg n.toNatClampNeg j))) (fun j hj => trivial) ⟨g3, g4, by show (H.setIfInBounds (ad b) cn)[ad b]? = _; rw [show (H.setIfInBounds (ad b) cn)[ad b]? = some cn by simp [Array.getElem?_setIfInBounds, hlt], ← hcn]; rfl⟩ oq) hnb he
    ⟨by simp; exact hS.1, fun q q1 q2 => by
      rw [oq q (fun e => q2 (by rw [e]; exact hA))]
      exact hS.2.1 q q1 q2, fun q hq => by
      rcases List.mem_append.mp hq with h | h
      · exact hS.2.2 q h
      · obtain ⟨z, -, hz⟩ := List.mem_map.mp h
        rw [← hz]
        exact hA⟩ hl0 (List.forall_mem_cons.mp (List.forall_mem_cons.mp (List.forall_mem_cons.mp (List.forall_mem_cons.mp (List.forall_mem_cons.mp hvs).2).2).2).2).2 _ hheap X'
  exact ⟨t, step t a1, b1⟩
def x_Lcln (own : String) (idx : Nat) : Prop := Cond.methodLink own idx ⟨"[B", "clone", "()Ljava/lang/Object;"⟩ ∈ x_T ∧ Cond.sameMethod "[B" "java/lang/Object" "clone" "()Ljava/lang/Object;" ∈ x_T ∧ Cond.native ⟨"java/lang/Object", "clone", "()Ljava/lang/Object;"⟩ ∈ x_T ∧ Cond.instanceMethod ⟨"java/lang/Object", "clone", "()Ljava/lang/Object;"⟩ ∈ x_T ∧ Cond.selects "[B" ⟨"[B", "clone", "()Ljava/lang/Object;"⟩ ⟨"java/lang/Object", "clone", "()Ljava/lang/Object;"⟩ ∈ x_T ∧ Cond.castable "[B" "java/lang/Cloneable" ∈ lw_tbl
/-- clone() of an array of bytes -/
theorem X_clone {idx a n : Nat} {f : Nat → Int32} (hl : x_Lcln (x_own M) idx) (hd : x_at (x_k M) pc = some (.invokevirtual idx, pc', t)) (hN : N a = some (.inr (true, .byte, n, fun j => .int (f j)))) (hfit : ∀ j, j < n → fits .byte (.int (f j)) = true) (hf : 1 ≤ d) (hs : (st.map fun v => v.category).sum ≤ 80) (h1 : cells + 1 ≤ mc) (h2 : slots + n ≤ ms) (kk : x_K G M (x_Z G d mc ms ad0 nb0 Qn Qx) N (cells + 1) (slots + n) pc' L st (.inr (true, .byte, n, fun j => .int (f j)))) : x_W G M (x_Z G d mc ms ad0 nb0 Qn Qx) N cells slots pc L (.ref a :: st) := by
  intro p e s m args below meth c ad nb H locs ls B hR hnb he hS hl0 hvs
  obtain ⟨hx, hb, hml, hr, hlk, hown, hts, hW, hkp, htb, hnm, hKn, hok⟩ := id B
  obtain ⟨d1, e1⟩ := x_decn hok hd (n := 2) rfl
  subst e1
  obtain ⟨l1, l2, l3, l4, l5, l6⟩ := hl
  obtain ⟨ho, g1, g2, g3, g4, g5⟩ := x_R_arr hR hN
  have hc1 : H[ad a]? = some (arrV (G.2.2.2.2.1 .byte) n (fun j => .int (f j))) := g5
  obtain ⟨hof, hra⟩ := hKn.2.1 _ g4
  have hnm2 : s.vm.findClass "[B" = some (G.2.2.2.2.1 .byte) := by
    rw [hW.alike.findClass]
    exact va_nm_byte hra
  obtain ⟨c0, t0, f1, f2, f3⟩ := Cond.castable_spec (va_Nw.use (A := args) rfl (va_Nw.warmC hW (hKn.2.2.1.1 _ l6 rfl)))
  cases hnm2.symm.trans f1
  intro T hT X
  subst hT
  obtain ⟨-, kA, hkA, comp, hkind⟩ := State.isArrayOf_alike X.warmed.alike (arrOfT_moved hW.alike hof 0 (fun _ => .null))
  obtain ⟨-, kS, hkS, compS, hkindS⟩ := arrOfT_moved hW.alike hof 0 (fun _ => .null)
  obtain ⟨vm', X', step⟩ := X.cloneArray hx hown (hts _ l1) (hts _ l2) (hts _ l3) (hts _ l4) (hts _ l5) (a := ad a) (cell := arrV (G.2.2.2.2.1 .byte) n (fun j => .int (f j))) hc1 (fun _ h => by cases h) (fun h => by cases h) hnm2 f2 f3
    (fun i v hv => by
      have hk' : T.vm.classes[G.2.2.2.2.1 .byte]? = some kA := hkA
      simpa [State.fitsSlot, State.slotType?, hk', hkind, arrV] using va_fit (fun i hi => hfit i hi) i v hv)
    (g := F0 m pc ls (.ref (ad a) :: st.map (x_tr ad))) rfl (by show ls.size = _; exact (hml.trans hl0.1.1.symm).symm) rfl (by rw [hb]; exact d1) hf (by
      show 2 * 0 + ((st.map (x_tr ad)).map fun v => v.category).sum + _ ≤ 100 * d
      rw [x_cat_sum]
      omega) h1 (by rw [arrV_size]; exact h2) (hloader := Vm.clonesLoader_of_array hkS hkindS)
  rw [arrV_size] at X'
  have hcE : ({ cls := (arrV (G.2.2.2.2.1 .byte) n (fun j => Value.int (f j))).cls, slots := (arrV (G.2.2.2.2.1 .byte) n (fun j => Value.int (f j))).slots } : Cell) = arrV (G.2.2.2.2.1 .byte) n (fun j => .int (f j)) := rfl
  rw [hcE] at X' step
  generalize hcn : arrV (G.2.2.2.2.1 .byte) n (fun j => Value.int (f j)) = cn at X' step
  obtain ⟨t, a1, b1⟩ := kk p e s m args below meth c ad nb T.heap (T.heap.push cn) locs ls B hR hnb he hS hl0 (List.forall_mem_cons.mp hvs).2 (fun j hj => trivial) ⟨fun _ => x_n0_le hkp hS, g4, by show (T.heap.push cn)[T.heap.size]? = _; rw [Array.getElem?_push_size, ← hcn]; rfl⟩ (by simp) (fun q hq => by rw [Array.getElem?_push, if_neg (Nat.ne_of_lt hq)]) _ rfl X'
  exact ⟨t, step t a1, b1⟩
/-- a cast of an array of bytes to its own class -/
theorem X_castB {idx a n : Nat} {f : Nat → Value} (hl : Cond.classLink (x_own M) idx "[B" ∈ x_T) (hd : x_at (x_k M) pc = some (.checkcast idx, pc', t)) (hN : N a = some (.inr (true, .byte, n, f))) (kk : x_W G M (x_Z G d mc ms ad0 nb0 Qn Qx) N cells slots pc' L (.ref a :: st)) : x_W G M (x_Z G d mc ms ad0 nb0 Qn Qx) N cells slots pc L (.ref a :: st) := by
  intro p e s m args below meth c ad nb H locs ls B hR hnb he hS hl0 hvs
  obtain ⟨hx, hb, hml, hr, hlk, hown, hts, hW, hkp, htb, hnm, hKn, hok⟩ := id B
  obtain ⟨d1, e1⟩ := x_decn hok hd (n := 2) rfl
  subst e1
  obtain ⟨ho, g1, g2, g3, g4, g5⟩ := x_R_arr hR hN
  have hc1 : H[ad a]? = some (arrV (G.2.2.2.2.1 .byte) n (fun j => x_tr ad (f j))) := g5
  have hnm2 : s.vm.findClass "[B" = some (G.2.2.2.2.1 .byte) := by
    rw [hW.alike.findClass]
    exact va_nm_byte (hKn.2.1 _ g4).2
  have K := kk p e s m args below meth c ad nb H locs ls B hR hnb he hS hl0 hvs
  intro T hT X
  obtain ⟨vm', X', step⟩ := X.checkcastYes hx hown (hts _ hl) (by rw [hT]; exact hc1) rfl hnm2 (va_asg _ _) (g := F0 m pc ls (.ref (ad a) :: st.map (x_tr ad))) rfl rfl (by rw [hb]; exact d1)
  obtain ⟨t, a1, b1⟩ := K (T.setVm vm') hT X'
  exact ⟨t, step t a1, b1⟩
end XRB
