/-! ===== the rows: calls ===== -/
section XR4
variable {G : XE} {M Mc : XMI} {Z : XZ} {N : XH} {cells slots pc pc' t : Nat} {L : List (Option Value)}
theorem x_blind {ad : Nat → Nat} {nb : Nat} {args : List Value} : FrameBlind (x_Pc G ad nb args N) := fun _ _ _ _ h => h
/-- something is thrown over this frame: of class E -/
def x_X (G : XE) (M : XMI) (Z : XZ) (N : XH) (cells slots pc : Nat) (L : List (Option Value)) (E : String) : Prop :=
  ∀ (p : Program) (e : Env) (s : State) (m : MethodId) (args : Array Value) (below : List Frame) (meth : Method) (c : Code) (ad : Nat → Nat) (nb : Nat) (H : Heap) (locs : List Loc) (ls : Array Slot) (rest : List Value) (q : Addr) (ce : Cell),
    x_B G M p s m args meth c → x_R G ad nb N H → Z.2.2.1 ≤ nb → x_ext Z.2.2.1 Z.2.1 ad → va_S (x_A G) s.heap H locs → x_L ad nb (x_nL M) L ls → H[q]? = some ce → ce.vm = .none → s.vm.findClass E = some ce.cls →
    vx_W p G.1 e Z.1 s m args below meth c H locs cells slots (Z.2.2.2 below args s) (F0 m pc ls rest) q
/-- behind a call: what the callee gives back, or throws -/
theorem x_back {mc ms : Nat} {p : Program} {e : Env} {s : State} {m : MethodId} {args : Array Value} {below : List Frame} {meth : Method} {c : Code} {ad : Nat → Nat} {nb : Nat} {H : Heap} {locs : List Loc} {ls : Array Slot} {st0 rest : List Value} {a : Array Value} {Qn : XH → Option Value → Prop} {Qx : XH → String → Prop}
    (hr : vx_Run p G.1 e Z.1 s m args below meth c H locs cells slots mc ms (F0 m pc ls st0) (rest.map (x_tr ad)) (x_Qc G ad nb Qn a) (x_XC G ad nb Qx) (x_A G)) (B : x_B G M p s m args meth c) (hn : Z.2.2.1 ≤ nb) (he : x_ext Z.2.2.1 Z.2.1 ad) (hS : va_S (x_A G) s.heap H locs) (hl : x_L ad nb (x_nL M) L ls) (hvs : ∀ v ∈ rest, x_vok nb v)
    (kx : ∀ (N' : XH) (E : String), Qx N' E → x_X G M Z N' (cells + mc) (slots + ms) pc L E) (kk : ∀ (N' : XH) (r : Option Value), Qn N' r → x_W G M Z N' (cells + mc) (slots + ms) (pc + 3) L (r.toList ++ rest)) :
    W p G.1 e Z.1 s m args below meth c H locs cells slots (Z.2.2.2 below args s) (F0 m pc ls st0) := by
  intro T hT X
  rcases hr T hT X with ⟨v, st₀, t, T', L1, h0, X', hL, e1, e2, ⟨⟨ad', nb', N', r, hv, hn', he', hR', hr', hq⟩, hF⟩, st⟩ | ⟨q, st₀, t, T', L1, E, ce, h0, X', hL, e1, e2, ⟨⟨ad', nb', N', hn', he', hR', hq⟩, hF⟩, hce, hcv, hcl, st⟩
  · cases hv
    obtain ⟨k1, k2, k3⟩ := vx_keep h0 e1 hS (fun _ _ h => h) (fun _ h => h) hL hF
    have K := kk N' r hq p e s m args below meth c ad' nb' T'.heap (locs ++ L1) ls B (by rw [e1]; exact hR') (Nat.le_trans hn hn') (fun k hk => (he' k (Nat.lt_of_lt_of_le hk hn)).trans (he k hk)) k3 (x_L_ext he' hn' hl) (fun v hv => by
      rcases List.mem_append.mp hv with h | h
      · cases r with
        | none => cases h
        | some w =>
          have : v = w := by simpa using h
          rw [this]
          exact hr' w rfl
      · exact x_vok_mono hn' (hvs v h))
    have e3 : (r.toList ++ rest).map (x_tr ad') = (r.map (x_tr ad')).toList ++ rest.map (x_tr ad) := by
      rw [List.map_append, x_map_ext he' hvs]
      cases r <;> rfl
    rw [e3] at K
    obtain ⟨t2, a1, b1⟩ := K T' rfl X'
    exact ⟨t2, st t2 a1, b1⟩
  · obtain ⟨k1, k2, k3⟩ := vx_keep h0 e1 hS (fun _ _ h => h) (fun _ h => h) hL hF
    obtain ⟨t2, a1, b1⟩ := kx N' E hq p e s m args below meth c ad' nb' T'.heap (locs ++ L1) ls (rest.map (x_tr ad)) q ce B (by rw [e1]; exact hR') (Nat.le_trans hn hn') (fun k hk => (he' k (Nat.lt_of_lt_of_le hk hn)).trans (he k hk)) k3 (x_L_ext he' hn' hl) (by rw [e1]; exact hce) hcv hcl T' rfl X'
    exact ⟨t2, st.trans a1, b1⟩
theorem x_back0 {mc ms : Nat} {p : Program} {e : Env} {s : State} {m : MethodId} {args : Array Value} {below : List Frame} {meth : Method} {c : Code} {ad : Nat → Nat} {nb : Nat} {H : Heap} {locs : List Loc} {ls : Array Slot} {st0 rest : List Value} {a : Array Value} {Qn : XH → Option Value → Prop}
    (hr : va_Run p G.1 e Z.1 s m args below meth c H locs cells slots mc ms (F0 m pc ls st0) (rest.map (x_tr ad)) (x_Qc G ad nb Qn a) (x_A G)) (B : x_B G M p s m args meth c) (hn : Z.2.2.1 ≤ nb) (he : x_ext Z.2.2.1 Z.2.1 ad) (hS : va_S (x_A G) s.heap H locs) (hl : x_L ad nb (x_nL M) L ls) (hvs : ∀ v ∈ rest, x_vok nb v)
    (kk : ∀ (N' : XH) (r : Option Value), Qn N' r → x_W G M Z N' (cells + mc) (slots + ms) (pc + 3) L (r.toList ++ rest)) :
    W p G.1 e Z.1 s m args below meth c H locs cells slots (Z.2.2.2 below args s) (F0 m pc ls st0) := by
  intro T hT X
  obtain ⟨v, st₀, t, T', L1, h0, X', hL, e1, e2, ⟨⟨ad', nb', N', r, hv, hn', he', hR', hr', hq⟩, hF⟩, st⟩ := hr T hT X
  cases hv
  obtain ⟨k1, k2, k3⟩ := vx_keep h0 e1 hS (fun _ _ h => h) (fun _ h => h) hL hF
  have K := kk N' r hq p e s m args below meth c ad' nb' T'.heap (locs ++ L1) ls B (by rw [e1]; exact hR') (Nat.le_trans hn hn') (fun k hk => (he' k (Nat.lt_of_lt_of_le hk hn)).trans (he k hk)) k3 (x_L_ext he' hn' hl) (fun v hv => by
    rcases List.mem_append.mp hv with h | h
    · cases r with
      | none => cases h
      | some w =>
        have : v = w := by simpa using h
        rw [this]
        exact hr' w rfl
    · exact x_vok_mono hn' (hvs v h))
  have e3 : (r.toList ++ rest).map (x_tr ad') = (r.map (x_tr ad')).toList ++ rest.map (x_tr ad) := by
    rw [List.map_append, x_map_ext he' hvs]
    cases r <;> rfl
  rw [e3] at K
  obtain ⟨t2, a1, b1⟩ := K T' rfl X'
  exact ⟨t2, st t2 a1, b1⟩
def x_noX : XH → String → Prop := fun _ _ => False
theorem x_Met {l : Launch} {y : MethodName} {ws : List Cond} {rm : Room} {Pc : Array Value → State → Prop} {Qc : Array Value → State → Outcome → State → Prop} {ad : Nat → Nat} {nb mc ms : Nat} {free : Addr → Prop} (h : vx_Met l y ws rm Pc Qc (x_XC G ad nb x_noX) mc ms free) : Met l y ws rm Pc Qc mc ms free := by
  intro p e ha hc hk s m args below hf happ hp hK
  obtain ⟨k, o, h1, h2, h3, h4⟩ := h p e ha hc hk s m args below hf happ hp hK
  refine ⟨k, o, h1, h2, h3, ?_⟩
  rcases h4 with h4 | ⟨q, -, E, ce, L1, ⟨⟨_, _, _, _, _, _, hx⟩, -⟩, -⟩
  · exact h4
  · exact hx.elim
theorem x_len_of {y : MethodName} {n : Nat} (h : (parseMethodDescriptor y.desc).map (fun d => d.parameters.length) = some n) : ∀ sig, parseMethodDescriptor y.desc = some sig → n = sig.parameters.length := fun sig hs => by
  rw [hs] at h
  exact (Option.some.inj h).symm
theorem x_pay {s : State} {args : Array Value} (hts : ∀ w ∈ x_T, w.before args s = true) {n : Nat} (hw : x_Cw Mc n) : ∀ w ∈ x_ws Mc, ∀ (a' : Array Value) (U : State), s.WarmedH U.vm → w.before a' U = true := by
  intro w h a' U hW
  have hm : w ∈ x_T := by
    rcases List.mem_cons.mp h with e | h
    · rw [e]; exact hw.1
    · exact h
  exact word_at hW (x_word hm).2 (hts w hm)
/-- room for a call: one frame more -/
def x_fit (Z : XZ) (cells slots : Nat) (Mc : XMI) (d mc ms : Nat) : Prop := d + 1 ≤ Z.1.frames ∧ 8 + (x_nL Mc + 11) + 100 * d ≤ Z.1.locals ∧ cells + mc ≤ Z.1.cells ∧ slots + ms ≤ Z.1.slots
theorem x_map_split {ad : Nat → Nat} {st As rest : List Value} {o : Nat} (h : st = As.reverse ++ .ref o :: rest) : st.map (x_tr ad) = (As.map (x_tr ad)).reverse ++ .ref (ad o) :: rest.map (x_tr ad) := by
  rw [h, List.map_append, List.map_reverse]; rfl
theorem x_cat_sum (ad : Nat → Nat) (st : List Value) : ((st.map (x_tr ad)).map fun v => v.category).sum = (st.map fun v => v.category).sum := by
  rw [List.map_map]
  congr 1
  exact List.map_congr_left fun v _ => x_tr_cat ad v
theorem X_callV {idx n d mc ms o ci nf : Nat} {T : u_T} {V : Nat → Value} {st As rest : List Value} {Qn : XH → Option Value → Prop} {Qx : XH → String → Prop} (hk : x_LV (x_own M) idx n Mc) (hM : x_M G Mc d mc ms (.ref o :: As) N Qn Qx)
    (hd : x_at (x_k M) pc = some (.invokevirtual idx, pc', t)) (hst : st = As.reverse ++ .ref o :: rest) (hN : N o = some (.inl (ci, V))) (hci : vwCl[ci]? = some ((x_y Mc).cls, T, nf)) (hn : As.length = n) (hrest : (rest.map fun v => v.category).sum ≤ 8) (hfit : x_fit Z cells slots Mc d mc ms)
    (kx : ∀ (N' : XH) (E : String), Qx N' E → x_X G M Z N' (cells + mc) (slots + ms) pc L E) (kk : ∀ (N' : XH) (r : Option Value), Qn N' r → x_W G M Z N' (cells + mc) (slots + ms) pc' L (r.toList ++ rest)) : x_W G M Z N cells slots pc L st := by
  intro p e s m args below meth c ad nb H locs ls B hR hnb he hS hl hvs
  obtain ⟨hx, hb, hml, hr, hlk, hown, hts, hW, hkp, htb, hnm, hKn, hok⟩ := id B
  obtain ⟨d1, e1⟩ := x_decn hok hd (n := 2) rfl
  subst e1
  obtain ⟨hw, hh, hk1, hk2, hk3⟩ := hk
  obtain ⟨hw1, hw2, hw3, hw4⟩ := id hw
  rw [hh] at hw1
  have hvA : ∀ v ∈ Value.ref o :: As, x_vok nb v := fun v hv => hvs v (by
    rw [hst]
    rcases List.mem_cons.mp hv with h | h
    · exact List.mem_append_right _ (by rw [h]; exact List.mem_cons_self)
    · exact List.mem_append_left _ (List.mem_reverse.mpr h))
  have hvR : ∀ v ∈ rest, x_vok nb v := fun v hv => hvs v (by rw [hst]; exact List.mem_append_right _ (List.mem_cons_of_mem _ hv))
  obtain ⟨-, g1, g2, g3, r, g4, cell, q1, q2, q3, q4⟩ := x_R_obj hR hN hci
  have hcl := (u_Kn_moved hW.alike (hKn.1 ci _ hci)).2.1
  have hrun := vx_runV (rest := rest.map (x_tr ad)) (As := As.map (x_tr ad)) (b := ad o) (C := (x_y Mc).cls) (nL := x_nL M) (g := F0 m pc ls (st.map (x_tr ad))) (cells := cells) (slots := slots) (e := e) (below := below) (meth := meth) (locs := locs) ⟨hx, hb, hml, hown, hts⟩ (hM ad nb)
    ⟨⟨rfl, rfl, hfit.1, hfit.2.1, x_pay hts hw, by unfold x_ws; rw [hh]; exact List.mem_cons_self, hts _ hw1, hts _ hw2, hw3, x_len_of hw4, hts _ hk1⟩, hts _ hk2, hts _ hk3⟩
    ⟨x_blind, ⟨cell, q1, by rw [q3]; rfl, by rw [q2]; exact hcl⟩, fun U hU hWU => ⟨rfl, hvA, hW.trans hWU, by rw [hU]; exact ⟨x_n0_le hkp hS, fun q hq => (hS.2.1 q (Nat.lt_of_lt_of_le hq hkp.1) (Nat.not_le.mpr hq)).trans (hkp.2 q hq)⟩, by rw [hU]; exact hR⟩⟩
    rfl (by rw [List.length_map]; exact hn) hl.1.1 (x_map_split hst) (lv_room (by rw [x_cat_sum]; exact hrest)) d1 ⟨hfit.2.2.1, hfit.2.2.2⟩
  exact x_back (Qn := Qn) (Qx := Qx) hrun B hnb he hS hl hvR kx kk
/-- what the callee may take as given -/
theorem x_pre {p : Program} {s : State} {m : MethodId} {args : Array Value} {meth : Method} {c : Code} {ad : Nat → Nat} {nb : Nat} {H : Heap} {locs : List Loc} {As : List Value} (B : x_B G M p s m args meth c) (hR : x_R G ad nb N H) (hS : va_S (x_A G) s.heap H locs) (hv : ∀ v ∈ As, x_vok nb v) (U : State) (hU : U.heap = H) (hWU : s.WarmedH U.vm) : x_Pc G ad nb As N (As.map (x_tr ad)).toArray U := by
  obtain ⟨hx, hb, hml, hr, hlk, hown, hts, hW, hkp, htb, hnm, hKn, hok⟩ := B
  exact ⟨rfl, hv, hW.trans hWU, by rw [hU]; exact ⟨x_n0_le hkp hS, fun q hq => (hS.2.1 q (Nat.lt_of_lt_of_le hq hkp.1) (Nat.not_le.mpr hq)).trans (hkp.2 q hq)⟩, by rw [hU]; exact hR⟩
theorem x_nestM {s : State} {args : Array Value} (hK : x_Kn G) (hW : G.2.1.WarmedH s.vm) {own host : String} {idx : Nat} {y : MethodName} (h : Cond.methodLinkNest own idx y host ∈ lw_tbl) : va_Nw (.methodLinkNest own idx y host) s := va_Nw.warmM hW (hK.2.2.1.1 _ h rfl)
theorem X_callS {idx n d mc ms : Nat} {st As rest : List Value} {Qn : XH → Option Value → Prop} {Qx : XH → String → Prop} (hk : x_LS (x_own M) idx n Mc) (hM : x_M G Mc d mc ms As N Qn Qx)
    (hd : x_at (x_k M) pc = some (.invokestatic idx, pc', t)) (hst : st = As.reverse ++ rest) (hn : As.length = n) (hrest : (rest.map fun v => v.category).sum ≤ 8) (hfit : x_fit Z cells slots Mc d mc ms)
    (kx : ∀ (N' : XH) (E : String), Qx N' E → x_X G M Z N' (cells + mc) (slots + ms) pc L E) (kk : ∀ (N' : XH) (r : Option Value), Qn N' r → x_W G M Z N' (cells + mc) (slots + ms) pc' L (r.toList ++ rest)) : x_W G M Z N cells slots pc L st := by
  intro p e s m args below meth c ad nb H locs ls B hR hnb he hS hl hvs
  obtain ⟨hx, hb, hml, hr, hlk, hown, hts, hW, hkp, htb, hnm, hKn, hok⟩ := id B
  obtain ⟨d1, e1⟩ := x_decn hok hd (n := 2) rfl
  subst e1
  subst hst
  obtain ⟨hw, hh, hk1, hk2⟩ := hk
  obtain ⟨hw1, hw2, hw3, hw4⟩ := id hw
  rw [hh] at hw1
  have hvA : ∀ v ∈ As, x_vok nb v := fun v hv => hvs v (List.mem_append_left _ (List.mem_reverse.mpr hv))
  have hvR : ∀ v ∈ rest, x_vok nb v := fun v hv => hvs v (List.mem_append_right _ hv)
  have hsp : (As.reverse ++ rest).map (x_tr ad) = (As.map (x_tr ad)).reverse ++ rest.map (x_tr ad) := by rw [List.map_append, List.map_reverse]
  have hrun := vx_runS (rest := rest.map (x_tr ad)) (As := As.map (x_tr ad)) (nL := x_nL M) (g := F0 m pc ls ((As.reverse ++ rest).map (x_tr ad))) (cells := cells) (slots := slots) (e := e) (below := below) (meth := meth) (locs := locs) ⟨hx, hb, hml, hown, hts⟩ (hM ad nb)
    ⟨⟨rfl, rfl, hfit.1, hfit.2.1, x_pay hts hw, by unfold x_ws; rw [hh]; exact List.mem_cons_self, hts _ hw1, hts _ hw2, hw3, x_len_of hw4, hts _ hk2⟩, hts _ hk1⟩
    ⟨x_blind, fun U hU hWU => x_pre B hR hS hvA U hU hWU⟩
    rfl (by rw [List.length_map]; exact hn) hl.1.1 hsp (lv_room (by rw [x_cat_sum]; exact hrest)) d1 ⟨hfit.2.2.1, hfit.2.2.2⟩
  exact x_back (Qn := Qn) (Qx := Qx) hrun B hnb he hS hl hvR kx kk
theorem X_callSX {idx n d mc ms : Nat} {st As rest : List Value} {Qn : XH → Option Value → Prop} {Qx : XH → String → Prop} (hk : x_LSX (x_own M) idx n Mc) (hM : x_M G Mc d mc ms As N Qn Qx)
    (hd : x_at (x_k M) pc = some (.invokestatic idx, pc', t)) (hst : st = As.reverse ++ rest) (hn : As.length = n) (hrest : (rest.map fun v => v.category).sum ≤ 8) (hfit : x_fit Z cells slots Mc d mc ms)
    (kx : ∀ (N' : XH) (E : String), Qx N' E → x_X G M Z N' (cells + mc) (slots + ms) pc L E) (kk : ∀ (N' : XH) (r : Option Value), Qn N' r → x_W G M Z N' (cells + mc) (slots + ms) pc' L (r.toList ++ rest)) : x_W G M Z N cells slots pc L st := by
  intro p e s m args below meth c ad nb H locs ls B hR hnb he hS hl hvs
  obtain ⟨hx, hb, hml, hr, hlk, hown, hts, hW, hkp, htb, hnm, hKn, hok⟩ := id B
  obtain ⟨d1, e1⟩ := x_decn hok hd (n := 2) rfl
  subst e1
  subst hst
  obtain ⟨hw, ⟨a0, l0, hh⟩, hk1, hk2⟩ := hk
  obtain ⟨hw1, hw2, hw3, hw4⟩ := id hw
  rw [hh] at hw1
  have hvA : ∀ v ∈ As, x_vok nb v := fun v hv => hvs v (List.mem_append_left _ (List.mem_reverse.mpr hv))
  have hvR : ∀ v ∈ rest, x_vok nb v := fun v hv => hvs v (List.mem_append_right _ hv)
  have hsp : (As.reverse ++ rest).map (x_tr ad) = (As.map (x_tr ad)).reverse ++ rest.map (x_tr ad) := by rw [List.map_append, List.map_reverse]
  have hrun := vx_runSX (hh := a0 :: l0) (rest := rest.map (x_tr ad)) (As := As.map (x_tr ad)) (nL := x_nL M) (g := F0 m pc ls ((As.reverse ++ rest).map (x_tr ad))) (cells := cells) (slots := slots) (e := e) (below := below) (meth := meth) (locs := locs) ⟨hx, hb, hml, hown, hts⟩ (hM ad nb)
    ⟨⟨rfl, rfl, hfit.1, hfit.2.1, x_pay hts hw, by unfold x_ws; rw [hh]; exact List.mem_cons_self⟩, hts _ hw1, hts _ hw2, hw3, x_len_of hw4, hts _ hk2, hts _ hk1⟩
    ⟨x_blind, fun U hU hWU => x_pre B hR hS hvA U hU hWU⟩
    rfl (by rw [List.length_map]; exact hn) hl.1.1 hsp (lv_room (by rw [x_cat_sum]; exact hrest)) d1 ⟨hfit.2.2.1, hfit.2.2.2⟩
  exact x_back (Qn := Qn) (Qx := Qx) hrun B hnb he hS hl hvR kx kk
theorem X_callSN {idx n d mc ms : Nat} {host : String} {st As rest : List Value} {Qn : XH → Option Value → Prop} (hk : x_LSN (x_own M) idx n Mc host) (hM : x_M G Mc d mc ms As N Qn x_noX)
    (hd : x_at (x_k M) pc = some (.invokestatic idx, pc', t)) (hst : st = As.reverse ++ rest) (hn : As.length = n) (hrest : (rest.map fun v => v.category).sum ≤ 8) (hfit : x_fit Z cells slots Mc d mc ms)
    (kk : ∀ (N' : XH) (r : Option Value), Qn N' r → x_W G M Z N' (cells + mc) (slots + ms) pc' L (r.toList ++ rest)) : x_W G M Z N cells slots pc L st := by
  intro p e s m args below meth c ad nb H locs ls B hR hnb he hS hl hvs
  obtain ⟨hx, hb, hml, hr, hlk, hown, hts, hW, hkp, htb, hnm, hKn, hok⟩ := id B
  obtain ⟨d1, e1⟩ := x_decn hok hd (n := 2) rfl
  subst e1
  subst hst
  obtain ⟨hw, hh, hk1, hk2⟩ := hk
  obtain ⟨hw1, hw2, hw3, hw4⟩ := id hw
  rw [hh] at hw1
  have hvA : ∀ v ∈ As, x_vok nb v := fun v hv => hvs v (List.mem_append_left _ (List.mem_reverse.mpr hv))
  have hvR : ∀ v ∈ rest, x_vok nb v := fun v hv => hvs v (List.mem_append_right _ hv)
  have hsp : (As.reverse ++ rest).map (x_tr ad) = (As.map (x_tr ad)).reverse ++ rest.map (x_tr ad) := by rw [List.map_append, List.map_reverse]
  have hrun := va_runSN (rest := rest.map (x_tr ad)) (As := As.map (x_tr ad)) (nL := x_nL M) (g := F0 m pc ls ((As.reverse ++ rest).map (x_tr ad))) (cells := cells) (slots := slots) (e := e) (below := below) (meth := meth) (locs := locs) ⟨hx, hb, hml, hown, hts⟩ (x_Met (hM ad nb))
    ⟨⟨⟨rfl, rfl, hfit.1, hfit.2.1, x_pay hts hw, by unfold x_ws; rw [hh]; exact List.mem_cons_self⟩, hts _ hw1, hts _ hw2, hw3, x_len_of hw4, va_Nw.use rfl (x_nestM (args := args) hKn hW hk2)⟩, hts _ hk1, trivial⟩
    ⟨x_blind, fun U hU hWU => x_pre B hR hS hvA U hU hWU⟩
    rfl (by rw [List.length_map]; exact hn) hl.1.1 hsp (lv_room (by rw [x_cat_sum]; exact hrest)) d1 ⟨hfit.2.2.1, hfit.2.2.2⟩
  exact x_back0 (Qn := Qn) hrun B hnb he hS hl hvR kk
theorem X_callI {idx n d mc ms o : Nat} {st As rest : List Value} {Qn : XH → Option Value → Prop} (hk : x_LI (x_own M) idx n Mc) (hM : x_M G Mc d mc ms (.ref o :: As) N Qn x_noX)
    (hd : x_at (x_k M) pc = some (.invokespecial idx, pc', t)) (hst : st = As.reverse ++ .ref o :: rest) (hn : As.length = n) (hrest : (rest.map fun v => v.category).sum ≤ 8) (hfit : x_fit Z cells slots Mc d mc ms)
    (kk : ∀ (N' : XH) (r : Option Value), Qn N' r → x_W G M Z N' (cells + mc) (slots + ms) pc' L (r.toList ++ rest)) : x_W G M Z N cells slots pc L st := by
  intro p e s m args below meth c ad nb H locs ls B hR hnb he hS hl hvs
  obtain ⟨hx, hb, hml, hr, hlk, hown, hts, hW, hkp, htb, hnm, hKn, hok⟩ := id B
  obtain ⟨d1, e1⟩ := x_decn hok hd (n := 2) rfl
  subst e1
  subst hst
  obtain ⟨hw, hh, hrt, hk1, hk2, hk3⟩ := hk
  obtain ⟨hw1, hw2, hw3, hw4⟩ := id hw
  rw [hh, hrt] at hw1
  have hvA : ∀ v ∈ Value.ref o :: As, x_vok nb v := fun v hv => hvs v (by
    rcases List.mem_cons.mp hv with h | h
    · exact List.mem_append_right _ (by rw [h]; exact List.mem_cons_self)
    · exact List.mem_append_left _ (List.mem_reverse.mpr h))
  have hvR : ∀ v ∈ rest, x_vok nb v := fun v hv => hvs v (List.mem_append_right _ (List.mem_cons_of_mem _ hv))
  have hrun := va_runI (rest := rest.map (x_tr ad)) (As := As.map (x_tr ad)) (b := ad o) (nL := x_nL M) (g := F0 m pc ls ((As.reverse ++ .ref o :: rest).map (x_tr ad))) (cells := cells) (slots := slots) (e := e) (below := below) (meth := meth) (locs := locs) ⟨hx, hb, hml, hown, hts⟩ (x_Met (hM ad nb))
    ⟨⟨rfl, rfl, hfit.1, hfit.2.1, x_pay hts hw, by unfold x_ws; rw [hh, hrt]; exact List.mem_cons_self, hts _ hw1, hts _ hw2, hw3, x_len_of hw4, hts _ hk3⟩, hk1, hts _ hk2⟩
    ⟨x_blind, fun U hU hWU => x_pre B hR hS hvA U hU hWU⟩
    rfl (by rw [List.length_map]; exact hn) hl.1.1 (x_map_split rfl) (lv_room (by rw [x_cat_sum]; exact hrest)) d1 ⟨hfit.2.2.1, hfit.2.2.2⟩
  exact x_back0 (Qn := Qn) hrun B hnb he hS hl hvR kk
theorem X_callIN {idx n d mc ms o : Nat} {host : String} {st As rest : List Value} {Qn : XH → Option Value → Prop} (hk : x_LIN (x_own M) idx n Mc host) (hM : x_M G Mc d mc ms (.ref o :: As) N Qn x_noX)
    (hd : x_at (x_k M) pc = some (.invokespecial idx, pc', t)) (hst : st = As.reverse ++ .ref o :: rest) (hn : As.length = n) (hrest : (rest.map fun v => v.category).sum ≤ 8) (hfit : x_fit Z cells slots Mc d mc ms)
    (kk : ∀ (N' : XH) (r : Option Value), Qn N' r → x_W G M Z N' (cells + mc) (slots + ms) pc' L (r.toList ++ rest)) : x_W G M Z N cells slots pc L st := by
  intro p e s m args below meth c ad nb H locs ls B hR hnb he hS hl hvs
  obtain ⟨hx, hb, hml, hr, hlk, hown, hts, hW, hkp, htb, hnm, hKn, hok⟩ := id B
  obtain ⟨d1, e1⟩ := x_decn hok hd (n := 2) rfl
  subst e1
  subst hst
  obtain ⟨hw, hh, hrt, hk1, hk2, hk3⟩ := hk
  obtain ⟨hw1, hw2, hw3, hw4⟩ := id hw
  rw [hh, hrt] at hw1
  have hvA : ∀ v ∈ Value.ref o :: As, x_vok nb v := fun v hv => hvs v (by
    rcases List.mem_cons.mp hv with h | h
    · exact List.mem_append_right _ (by rw [h]; exact List.mem_cons_self)
    · exact List.mem_append_left _ (List.mem_reverse.mpr h))
  have hvR : ∀ v ∈ rest, x_vok nb v := fun v hv => hvs v (List.mem_append_right _ (List.mem_cons_of_mem _ hv))
  have hrun := va_runIN (rest := rest.map (x_tr ad)) (As := As.map (x_tr ad)) (b := ad o) (nL := x_nL M) (g := F0 m pc ls ((As.reverse ++ .ref o :: rest).map (x_tr ad))) (cells := cells) (slots := slots) (e := e) (below := below) (meth := meth) (locs := locs) ⟨hx, hb, hml, hown, hts⟩ (x_Met (hM ad nb))
    ⟨⟨⟨rfl, rfl, hfit.1, hfit.2.1, x_pay hts hw, by unfold x_ws; rw [hh, hrt]; exact List.mem_cons_self⟩, hts _ hw1, hts _ hw2, hw3, x_len_of hw4, va_Nw.use rfl (x_nestM (args := args) hKn hW hk3)⟩, hk1, hts _ hk2⟩
    ⟨x_blind, fun U hU hWU => x_pre B hR hS hvA U hU hWU⟩
    rfl (by rw [List.length_map]; exact hn) hl.1.1 (x_map_split rfl) (lv_room (by rw [x_cat_sum]; exact hrest)) d1 ⟨hfit.2.2.1, hfit.2.2.2⟩
  exact x_back0 (Qn := Qn) hrun B hnb he hS hl hvR kk
/-- Object's constructor -/
theorem X_obj {idx o : Nat} {st : List Value} (h1 : Cond.methodLink (x_own M) idx Lib.objectInit ∈ x_T) (h2 : Cond.instanceMethod Lib.objectInit ∈ x_T) (h3 : Cond.code Lib.objectInit ⟨#[0xb1]⟩ 1 none ∈ x_T) (hd : x_at (x_k M) pc = some (.invokespecial idx, pc', t)) (hf : 1 ≤ Z.1.frames) (hlo : (st.map fun v => v.category).sum + 12 ≤ Z.1.locals) (kk : x_W G M Z N cells slots pc' L st) : x_W G M Z N cells slots pc L (.ref o :: st) := by
  intro p e s m args below meth c ad nb H locs ls B hR hnb he hS hl hvs
  obtain ⟨hx, hb, hml, hr, hlk, hown, hts, hW, hkp, htb, hnm, hKn, hok⟩ := id B
  obtain ⟨d1, e1⟩ := x_decn hok hd (n := 2) rfl
  subst e1
  have hm : (F0 m pc ls ((Value.ref o :: st).map (x_tr ad))).monitorRoom = 0 := rfl
  exact W.objInit hx hb hown (hts _ h1) (hts _ h2) (hts _ h3) rfl (hl.1.1.trans hml.symm) rfl d1 hf (by rw [hm, x_cat_sum]; omega) (kk p e s m args below meth c ad nb H locs ls B hR hnb he hS hl (List.forall_mem_cons.mp hvs).2)
theorem X_callU {idx n d mc ms o ci nf : Nat} {x : MethodName} {T : u_T} {V : Nat → Value} {st As rest : List Value} {Qn : XH → Option Value → Prop} (hk : x_LU (x_own M) idx n x Mc) (hM : x_M G Mc d mc ms (.ref o :: As) N Qn x_noX)
    (hd : x_at (x_k M) pc = some (.invokevirtual idx, pc', t)) (hst : st = As.reverse ++ .ref o :: rest) (hN : N o = some (.inl (ci, V))) (hci : vwCl[ci]? = some ((x_y Mc).cls, T, nf)) (hn : As.length = n) (hrest : (rest.map fun v => v.category).sum ≤ 8) (hfit : x_fit Z cells slots Mc d mc ms)
    (kk : ∀ (N' : XH) (r : Option Value), Qn N' r → x_W G M Z N' (cells + mc) (slots + ms) pc' L (r.toList ++ rest)) : x_W G M Z N cells slots pc L st := by
  intro p e s m args below meth c ad nb H locs ls B hR hnb he hS hl hvs
  obtain ⟨hx, hb, hml, hr, hlk, hown, hts, hW, hkp, htb, hnm, hKn, hok⟩ := id B
  obtain ⟨d1, e1⟩ := x_decn hok hd (n := 2) rfl
  subst e1
  subst hst
  obtain ⟨hw, hh, hk1, hk2, hk3, hk4, hk5, hk6, hk7⟩ := hk
  obtain ⟨hw1, hw2, hw3, hw4⟩ := id hw
  rw [hh] at hw1
  have hvA : ∀ v ∈ Value.ref o :: As, x_vok nb v := fun v hv => hvs v (by
    rcases List.mem_cons.mp hv with h | h
    · exact List.mem_append_right _ (by rw [h]; exact List.mem_cons_self)
    · exact List.mem_append_left _ (List.mem_reverse.mpr h))
  have hvR : ∀ v ∈ rest, x_vok nb v := fun v hv => hvs v (List.mem_append_right _ (List.mem_cons_of_mem _ hv))
  obtain ⟨-, g1, g2, g3, r, g4, cell, q1, q2, q3, q4⟩ := x_R_obj hR hN hci
  have hcl := (u_Kn_moved hW.alike (hKn.1 ci _ hci)).2.1
  have hdec : va_Decl s ⟨x.cls, x.name, x.desc⟩ := va_Decl.abs (va_Nw.warmD hW (hKn.2.2.1.1 _ hk5 rfl))
  have hrun := va_runU (x := x) (owner := x.cls) (rest := rest.map (x_tr ad)) (As := As.map (x_tr ad)) (b := ad o) (C := (x_y Mc).cls) (nL := x_nL M) (g := F0 m pc ls ((As.reverse ++ .ref o :: rest).map (x_tr ad))) (cells := cells) (slots := slots) (e := e) (below := below) (meth := meth) (locs := locs) ⟨hx, hb, hml, hown, hts⟩ (x_Met (hM ad nb))
    ⟨⟨rfl, rfl, hfit.1, hfit.2.1, x_pay hts hw, by unfold x_ws; rw [hh]; exact List.mem_cons_self⟩, hts _ hw1, hts _ hw2, hk6, by rw [hk7]; exact x_len_of hw4, hts _ hk1, hts _ hk2, hdec, hts _ hk3, hts _ hk4⟩
    ⟨x_blind, ⟨cell, q1, by rw [q3]; rfl, by rw [q2]; exact hcl⟩, fun U hU hWU => x_pre B hR hS hvA U hU hWU⟩
    rfl (by rw [List.length_map]; exact hn) hl.1.1 (x_map_split rfl) (lv_room (by rw [x_cat_sum]; exact hrest)) d1 ⟨hfit.2.2.1, hfit.2.2.2⟩
  exact x_back0 (Qn := Qn) hrun B hnb he hS hl hvR kk
end XR4
