/-! ===== the rows: fields, arrays, new cells ===== -/
theorem x_tr_fits {ad : Nat → Nat} {ty : FieldType} {v : Value} (h : narrow ty v = v ∧ fits ty v = true) : narrow ty (x_tr ad v) = x_tr ad v ∧ fits ty (x_tr ad v) = true := by
  obtain ⟨h1, h2⟩ := h
  cases v with
  | ref k =>
    refine ⟨by cases ty <;> rfl, ?_⟩
    cases ty <;> first | rfl | cases h2
  | _ => exact ⟨h1, h2⟩
theorem x_nest {G : XE} {s : State} {args : Array Value} (hK : x_Kn G) (hW : G.2.1.WarmedH s.vm) {own ref name desc host : String} {idx : Nat} (h : Cond.fieldLinkNest own idx ref name desc host ∈ lw_tbl) : (Cond.fieldLinkNest own idx ref name desc host).before args s = true :=
  va_Nw.use rfl (va_Nw.warmF hW (hK.2.2.1.1 _ h rfl))
section XR2
variable {G : XE} {M : XMI} {Z : XZ} {N : XH} {cells slots pc pc' t : Nat} {L L' : List (Option Value)} {st : List Value} {i : Instr}
theorem X_get {idx ci k o : Nat} {ty : FieldType} {fin : Bool} {V : Nat → Value} {v : Value} (hF : x_FL (x_own M) idx ci k ty fin) (hd : x_at (x_k M) pc = some (.getfield idx, pc', t)) (hN : N o = some (.inl (ci, V))) (hv : V k = v) (kk : x_W G M Z N cells slots pc' L (v :: st)) : x_W G M Z N cells slots pc L (.ref o :: st) := by
  intro p e s m args below meth c ad nb H locs ls B hR hn he hS hl hvs
  obtain ⟨hx, hb, hml, hr, hlk, hown, hts, hW, hkp, htb, hnm, hKn, hok⟩ := id B
  obtain ⟨d1, e1⟩ := x_decn hok hd (n := 2) rfl
  subst e1
  obtain ⟨C, T, n, tys, ⟨hc, hin, hty, hnms⟩, hk, -, -, hlink⟩ := hF
  obtain ⟨ho, g1, g2, g3, r, g4, cell, q1, q2, q3, q4⟩ := x_R_obj hR hN hc
  cases hc.symm.trans g4
  obtain ⟨hSl, hfc, kC, hkC, hkind⟩ := u_Kn_moved hW.alike (hKn.1 ci _ hc)
  obtain ⟨cf, kf, fi, f, hi, hsl⟩ := hSl k hk
  have K := kk p e s m args below meth c ad nb H locs ls B hR hn he hS hl (List.forall_mem_cons.mpr ⟨by rw [← hv]; exact g2 _ hc k hk, (List.forall_mem_cons.mp hvs).2⟩)
  have hst := (u_facts hfc hkC (u_lays hts hin hk) hi).1
  have hslot : cell.slots[f.slot]? = some (x_tr ad v) := by rw [hsl, q4 k hk]; exact congrArg (fun z => some (x_tr ad z)) hv
  rcases hlink with h | ⟨host, h⟩
  · exact W.getf hx hb hown (hts _ h) hi hst q1 (by rw [q3]; exact fun h => by cases h) hslot rfl rfl d1 K
  · exact va_Wgetf hx hb hown (x_nest hKn hW h) hi hst q1 (by rw [q3]; exact fun h => by cases h) hslot rfl rfl d1 K
theorem x_cell_put {ad : Nat → Nat} {o ci k : Nat} {C : String} {T : u_T} {n : Nat} {tys : Nat → FieldType} {s : State} {args : Array Value} {V : Nat → Value} {v : Value} {H' : Heap} {cell : Cell} (hc : x_Cl ci C T n tys) (hts : ∀ w ∈ x_T, w.before args s = true) (hKu : u_Kn s C T n (G.2.2.1 ci) (G.2.2.2.1 ci)) (hk : k < n) (h0 : x_n0 G ≤ o)
    (q2 : cell.cls = G.2.2.1 ci) (q3 : cell.vm = .none) (q4 : ∀ j, j < n → cell.slots[G.2.2.2.1 ci j]? = some (x_tr ad (V j))) (e1 : H'[o]? = some (cell.setSlot (G.2.2.2.1 ci k) (x_tr ad v))) : x_cell G ad o (.inl (ci, updV V k v)) H' := by
  obtain ⟨hc1, hin, hty, hnms⟩ := hc
  have hap : ∀ a b, a < n → b < n → a ≠ b → (G.2.2.2.1 ci) a ≠ (G.2.2.2.1 ci) b := by
    intro x y hx hy hne
    obtain ⟨hS, -⟩ := hKu
    obtain ⟨_, _, _, fa, hia, ea⟩ := hS x hx
    obtain ⟨_, _, _, fb, hib, eb⟩ := hS y hy
    rw [← ea, ← eb]
    refine u_apart (u_lays hts hin hx) (u_lays hts hin hy) hia hib ?_
    rw [(State.fieldFound?_type hia (hty x hx)).1, (State.fieldFound?_type hib (hty y hy)).1]
    exact hnms x hx y hy hne
  refine ⟨h0, _, hc1, _, e1, q2, q3, fun j hj => ?_⟩
  rw [t_set (V := fun j => x_tr ad (V j)) q4 hap hk (x_tr ad v) j hj]
  show some (updV (fun j => x_tr ad (V j)) k (x_tr ad v) j) = some (x_tr ad (updV V k v j))
  unfold updV
  by_cases hjk : j = k
  · rw [if_pos hjk, if_pos hjk]
  · rw [if_neg hjk, if_neg hjk]
theorem x_cok_upd {nb ci k : Nat} {V : Nat → Value} {v : Value} (h : x_cok nb (.inl (ci, V))) (hv : x_vok nb v) : x_cok nb (.inl (ci, updV V k v)) := fun r hr j hj => by
  unfold updV
  by_cases e : j = k
  · rw [if_pos e]; exact hv
  · rw [if_neg e]; exact h r hr j hj
theorem x_cok_upa {nb n k : Nat} {mu : Bool} {ty : FieldType} {f : Nat → Value} {v : Value} (h : x_cok nb (.inr (mu, ty, n, f))) (hv : x_vok nb v) : x_cok nb (.inr (mu, ty, n, updV f k v)) := fun j hj => by
  unfold updV
  by_cases e : j = k
  · rw [if_pos e]; exact hv
  · rw [if_neg e]; exact h j hj
theorem x_S_put {A : Nat → Prop} {H0 H H1 : Heap} {locs : List Loc} {a k : Nat} (h : va_S A H0 H locs) (z : H1.size = H.size) (oq : ∀ q : Nat, q ≠ a → H1[q]? = H[q]?) (ha : A a) : va_S A H0 H1 (locs ++ [⟨a, k⟩]) := h.put z oq ha
theorem X_put {idx ci k o : Nat} {ty : FieldType} {V : Nat → Value} {v : Value} (hF : x_FL (x_own M) idx ci k ty false) (hd : x_at (x_k M) pc = some (.putfield idx, pc', t)) (hN : N o = some (.inl (ci, V))) (hv : narrow ty v = v ∧ fits ty v = true) (kk : x_W G M Z (x_set N o (.inl (ci, updV V k v))) cells slots pc' L st) : x_W G M Z N cells slots pc L (v :: .ref o :: st) := by
  intro p e s m args below meth c ad nb H locs ls B hR hn he hS hl hvs
  obtain ⟨hx, hb, hml, hr, hlk, hown, hts, hW, hkp, htb, hnm, hKn, hok⟩ := id B
  obtain ⟨d1, e1⟩ := x_decn hok hd (n := 2) rfl
  subst e1
  obtain ⟨C, T, n, tys, hcl, hk, hte, hfin, hlink⟩ := hF
  obtain ⟨hc, hin, hty, hnms⟩ := id hcl
  obtain ⟨ho, g1, g2, g3, r, g4, cell, q1, q2, q3, q4⟩ := x_R_obj hR hN hc
  cases hc.symm.trans g4
  have hKu := u_Kn_moved hW.alike (hKn.1 ci _ hc)
  obtain ⟨hSl, hfc, kC, hkC, hkind⟩ := id hKu
  obtain ⟨cf, kf, fi, f, hi, hsl⟩ := hSl k hk
  have hlay := hts _ (hin _ (u_in_lay hk))
  unfold u_lay at hlay
  rw [if_neg (by rw [hfin]; decide)] at hlay
  have hst := (u_facts hfc hkC (u_lays hts hin hk) hi).1
  have hv2 := x_tr_fits (ad := ad) hv
  have h6 := u_store hfc hkC hkind hlay hi (by rw [hty k hk, hte]) hv2.1 hv2.2
  have hvv := hvs v List.mem_cons_self
  have K := fun H' (z1 : H'[ad o]? = some (cell.setSlot f.slot (x_tr ad v))) (z2 : H'.size = H.size) (z3 : ∀ q, q ≠ ad o → H'[q]? = H[q]?) =>
    kk p e s m args below meth c ad nb H' (locs ++ [⟨ad o, f.slot⟩]) ls B (x_R_put hR ho hN (x_cok_upd g2 hvv) (x_cell_put hcl hts hKu hk g3 q2 q3 q4 (by rw [z1, hsl])) z3) hn he (hS.put z2 z3 g3) hl (List.forall_mem_cons.mp (List.forall_mem_cons.mp hvs).2).2
  rcases hlink with h | ⟨host, h⟩
  · exact W.putK hx hb ⟨hown, hts _ h, ⟨_, _, _, hi⟩, hst⟩ (by rw [q2]; exact h6) q1 q3 (by rw [hsl]; exact k2_hasslot (q4 k hk)) rfl rfl d1 K
  · exact va_WputK hx hb hown (x_nest hKn hW h) hi hst (by rw [q2]; exact h6) q1 q3 (by rw [hsl]; exact k2_hasslot (q4 k hk)) rfl rfl d1 K
/-- a final field, in its own class's constructor -/
theorem X_putF {idx ci k o : Nat} {ty : FieldType} {V : Nat → Value} {v : Value} (hF : x_FL (x_own M) idx ci k ty true) (hd : x_at (x_k M) pc = some (.putfield idx, pc', t)) (hN : N o = some (.inl (ci, V))) (hv : narrow ty v = v ∧ fits ty v = true) (hini : (x_y M).name = "<init>") (hdecl : ∀ (C : String) (T : u_T) (n : Nat), vwCl[ci]? = some (C, T, n) → (T k).1 = x_own M) (kk : x_W G M Z (x_set N o (.inl (ci, updV V k v))) cells slots pc' L st) : x_W G M Z N cells slots pc L (v :: .ref o :: st) := by
  intro p e s m args below meth c ad nb H locs ls B hR hn he hS hl hvs
  obtain ⟨hx, hb, hml, hr, hlk, hown, hts, hW, hkp, htb, hnm, hKn, hok⟩ := id B
  obtain ⟨d1, e1⟩ := x_decn hok hd (n := 2) rfl
  subst e1
  obtain ⟨C, T, n, tys, hcl, hk, hte, hfin, hlink⟩ := hF
  obtain ⟨hc, hin, hty, hnms⟩ := id hcl
  obtain ⟨ho, g1, g2, g3, r, g4, cell, q1, q2, q3, q4⟩ := x_R_obj hR hN hc
  cases hc.symm.trans g4
  have hKu := u_Kn_moved hW.alike (hKn.1 ci _ hc)
  obtain ⟨hSl, hfc, kC, hkC, hkind⟩ := id hKu
  obtain ⟨cf, kf, fi, f, hi, hsl⟩ := hSl k hk
  have hlay := hts _ (hin _ (u_in_lay hk))
  unfold u_lay at hlay
  rw [if_pos hfin] at hlay
  have hst := (u_facts hfc hkC (u_lays hts hin hk) hi).1
  have hv2 := x_tr_fits (ad := ad) hv
  have hcf : m.cls = cf := by
    obtain ⟨_, _, c', _, _, _, -, -, hf', -, -, -, hown2, -⟩ := Cond.laysFinal_spec hlay
    have e1 : c' = cf := by have := hi.symm.trans hf'; simp at this; exact this.1.symm
    rw [hdecl _ _ _ hc] at hown2
    rw [← e1]; exact Option.some.inj (hown.symm.trans hown2)
  have h6 := u_fits hfc hkC hkind (Or.inr hlay) hi (by rw [hty k hk, hte]) hv2.1 hv2.2
  have hvv := hvs v List.mem_cons_self
  have K := fun H' (z1 : H'[ad o]? = some (cell.setSlot f.slot (x_tr ad v))) (z2 : H'.size = H.size) (z3 : ∀ q, q ≠ ad o → H'[q]? = H[q]?) =>
    kk p e s m args below meth c ad nb H' (locs ++ [⟨ad o, f.slot⟩]) ls B (x_R_put hR ho hN (x_cok_upd g2 hvv) (x_cell_put hcl hts hKu hk g3 q2 q3 q4 (by rw [z1, hsl])) z3) hn he (hS.put z2 z3 g3) hl (List.forall_mem_cons.mp (List.forall_mem_cons.mp hvs).2).2
  rcases hlink with h | ⟨host, h⟩
  · exact W.putFinK hx hb hown (hts _ h) hi hst hcf (hnm.trans hini) (by rw [q2]; exact h6) q1 q3 (by rw [hsl]; exact k2_hasslot (q4 k hk)) rfl rfl d1 K
  · refine va_Wputf hx hb hown (x_nest hKn hW h) hi hst (Or.inr ⟨hcf, hnm.trans hini⟩) q1 (by rw [q3]; exact fun h => by cases h) (by rw [hsl]; exact k2_hasslot (q4 k hk)) h6.1 (by rw [q2, q3]; exact h6.2) rfl rfl d1 (K _ ?_ ?_ ?_)
    · have ha : ad o < H.size := (Array.getElem?_eq_some_iff.mp q1).1
      simp [Array.getElem?_setIfInBounds, ha]
    · simp
    · intro q hq
      simp [Array.getElem?_setIfInBounds, Ne.symm hq]

/-- what an array holds, whichever -/
theorem x_arr_T {ad : Nat → Nat} {a n : Nat} {mu : Bool} {ty : FieldType} {f : Nat → Value} {H : Heap} (hA : ∀ ty, ty ∈ x_tys → ArrOfT G.2.1 (G.2.2.2.2.1 ty) ty ∧ va_RA G.2.1 (G.2.2.2.2.1 ty) ty) (hm : ty ∈ x_tys) (h : x_arr G ad a mu ty n f H) : x_arT G ad a ty n f H := by
  cases mu with
  | true => exact ⟨_, h, (hA _ hm).1 n _, (fun q => by cases q), Nat.le_of_eq (arrV_size _ _ _).symm, by rw [arrV_size] <;> rfl, fun j hj => arrV_read _ _ hj⟩
  | false => exact h
theorem X_iald {a n : Nat} {mu : Bool} {f : Nat → Value} {j : Int32} {v : Value} (hd : x_at (x_k M) pc = some (.iaload, pc', t)) (hN : N a = some (.inr (mu, .int, n, f))) (hin : vp_in j n) (hv : f j.toNatClampNeg = v) (kk : x_W G M Z N cells slots pc' L (v :: st)) : x_W G M Z N cells slots pc L (.int j :: .ref a :: st) := by
  intro p e s m args below meth c ad nb H locs ls B hR hn he hS hl hvs
  obtain ⟨hx, hb, hml, hr, hlk, hown, hts, hW, hkp, htb, hnm, hKn, hok⟩ := id B
  obtain ⟨d1, e1⟩ := x_decn hok hd (n := 0) rfl
  subst e1
  obtain ⟨ho, g1, g2, g3, g4, g5⟩ := x_R_arr hR hN
  have hlt : j.toNatClampNeg < n := Nat.not_le.mp fun q => hin (Or.inr q)
  have K := kk p e s m args below meth c ad nb H locs ls B hR hn he hS hl (List.forall_mem_cons.mpr ⟨by rw [← hv]; exact g2 _ hlt, (List.forall_mem_cons.mp (List.forall_mem_cons.mp hvs).2).2⟩)
  obtain ⟨cell, c1, c2, c3, c4, c5, c6⟩ := x_arr_T hKn.2.1 g4 g5
  exact W.iald hx hb c1 (State.isArrayOf_alike hW.alike c2) c3 (fun q => hin (q.imp id (Nat.le_trans c4))) (by rw [c6 _ hlt, hv]) rfl rfl d1 K
theorem X_lald {a n : Nat} {mu : Bool} {f : Nat → Value} {j : Int32} {v : Value} (hd : x_at (x_k M) pc = some (.laload, pc', t)) (hN : N a = some (.inr (mu, .long, n, f))) (hin : vp_in j n) (hv : f j.toNatClampNeg = v) (kk : x_W G M Z N cells slots pc' L (v :: st)) : x_W G M Z N cells slots pc L (.int j :: .ref a :: st) := by
  intro p e s m args below meth c ad nb H locs ls B hR hn he hS hl hvs
  obtain ⟨hx, hb, hml, hr, hlk, hown, hts, hW, hkp, htb, hnm, hKn, hok⟩ := id B
  obtain ⟨d1, e1⟩ := x_decn hok hd (n := 0) rfl
  subst e1
  obtain ⟨ho, g1, g2, g3, g4, g5⟩ := x_R_arr hR hN
  have hlt : j.toNatClampNeg < n := Nat.not_le.mp fun q => hin (Or.inr q)
  have K := kk p e s m args below meth c ad nb H locs ls B hR hn he hS hl (List.forall_mem_cons.mpr ⟨by rw [← hv]; exact g2 _ hlt, (List.forall_mem_cons.mp (List.forall_mem_cons.mp hvs).2).2⟩)
  obtain ⟨cell, c1, c2, c3, c4, c5, c6⟩ := x_arr_T hKn.2.1 g4 g5
  exact W.lald hx hb c1 (State.isArrayOf_alike hW.alike c2) c3 (fun q => hin (q.imp id (Nat.le_trans c4))) (by rw [c6 _ hlt, hv]) rfl rfl d1 K
theorem X_bald {a n : Nat} {mu : Bool} {f : Nat → Value} {j : Int32} {v : Value} (hd : x_at (x_k M) pc = some (.baload, pc', t)) (hN : N a = some (.inr (mu, .byte, n, f))) (hin : vp_in j n) (hv : f j.toNatClampNeg = v) (kk : x_W G M Z N cells slots pc' L (v :: st)) : x_W G M Z N cells slots pc L (.int j :: .ref a :: st) := by
  intro p e s m args below meth c ad nb H locs ls B hR hn he hS hl hvs
  obtain ⟨hx, hb, hml, hr, hlk, hown, hts, hW, hkp, htb, hnm, hKn, hok⟩ := id B
  obtain ⟨d1, e1⟩ := x_decn hok hd (n := 0) rfl
  subst e1
  obtain ⟨ho, g1, g2, g3, g4, g5⟩ := x_R_arr hR hN
  have hlt : j.toNatClampNeg < n := Nat.not_le.mp fun q => hin (Or.inr q)
  have K := kk p e s m args below meth c ad nb H locs ls B hR hn he hS hl (List.forall_mem_cons.mpr ⟨by rw [← hv]; exact g2 _ hlt, (List.forall_mem_cons.mp (List.forall_mem_cons.mp hvs).2).2⟩)
  obtain ⟨cell, c1, c2, c3, c4, c5, c6⟩ := x_arr_T hKn.2.1 g4 g5
  exact W.bald hx hb c1 (State.isArrayOf_alike hW.alike c2) c3 (fun q => hin (q.imp id (Nat.le_trans c4))) (by rw [c6 _ hlt, hv]) rfl rfl d1 K
theorem X_zald {a n : Nat} {mu : Bool} {f : Nat → Value} {j : Int32} {v : Value} (hd : x_at (x_k M) pc = some (.baload, pc', t)) (hN : N a = some (.inr (mu, .boolean, n, f))) (hin : vp_in j n) (hv : f j.toNatClampNeg = v) (kk : x_W G M Z N cells slots pc' L (v :: st)) : x_W G M Z N cells slots pc L (.int j :: .ref a :: st) := by
  intro p e s m args below meth c ad nb H locs ls B hR hn he hS hl hvs
  obtain ⟨hx, hb, hml, hr, hlk, hown, hts, hW, hkp, htb, hnm, hKn, hok⟩ := id B
  obtain ⟨d1, e1⟩ := x_decn hok hd (n := 0) rfl
  subst e1
  obtain ⟨ho, g1, g2, g3, g4, g5⟩ := x_R_arr hR hN
  have hlt : j.toNatClampNeg < n := Nat.not_le.mp fun q => hin (Or.inr q)
  have K := kk p e s m args below meth c ad nb H locs ls B hR hn he hS hl (List.forall_mem_cons.mpr ⟨by rw [← hv]; exact g2 _ hlt, (List.forall_mem_cons.mp (List.forall_mem_cons.mp hvs).2).2⟩)
  obtain ⟨cell, c1, c2, c3, c4, c5, c6⟩ := x_arr_T hKn.2.1 g4 g5
  exact W.zald hx hb c1 (State.isArrayOf_alike hW.alike c2) c3 (fun q => hin (q.imp id (Nat.le_trans c4))) (by rw [c6 _ hlt, hv]) rfl rfl d1 K
theorem X_aald {a n : Nat} {mu : Bool} {ty : FieldType} {f : Nat → Value} {j : Int32} {v : Value} (hd : x_at (x_k M) pc = some (.aaload, pc', t)) (hN : N a = some (.inr (mu, ty, n, f))) (hty : ty.isReference = true) (hin : vp_in j n) (hv : f j.toNatClampNeg = v) (kk : x_W G M Z N cells slots pc' L (v :: st)) : x_W G M Z N cells slots pc L (.int j :: .ref a :: st) := by
  intro p e s m args below meth c ad nb H locs ls B hR hn he hS hl hvs
  obtain ⟨hx, hb, hml, hr, hlk, hown, hts, hW, hkp, htb, hnm, hKn, hok⟩ := id B
  obtain ⟨d1, e1⟩ := x_decn hok hd (n := 0) rfl
  subst e1
  obtain ⟨ho, g1, g2, g3, g4, g5⟩ := x_R_arr hR hN
  have hlt : j.toNatClampNeg < n := Nat.not_le.mp fun q => hin (Or.inr q)
  have K := kk p e s m args below meth c ad nb H locs ls B hR hn he hS hl (List.forall_mem_cons.mpr ⟨by rw [← hv]; exact g2 _ hlt, (List.forall_mem_cons.mp (List.forall_mem_cons.mp hvs).2).2⟩)
  obtain ⟨cell, c1, c2, c3, c4, c5, c6⟩ := x_arr_T hKn.2.1 g4 g5
  exact W.aald hx hb c1 (State.isArrayOf_alike hW.alike c2) hty c3 (fun q => hin (q.imp id (Nat.le_trans c4))) (by rw [c6 _ hlt, hv]) rfl rfl d1 K
theorem X_alen {a n : Nat} {mu : Bool} {ty : FieldType} {f : Nat → Value} (hd : x_at (x_k M) pc = some (.arraylength, pc', t)) (hN : N a = some (.inr (mu, ty, n, f))) (kk : x_W G M Z N cells slots pc' L (.int (Int32.ofNat n) :: st)) : x_W G M Z N cells slots pc L (.ref a :: st) := by
  intro p e s m args below meth c ad nb H locs ls B hR hn he hS hl hvs
  obtain ⟨hx, hb, hml, hr, hlk, hown, hts, hW, hkp, htb, hnm, hKn, hok⟩ := id B
  obtain ⟨d1, e1⟩ := x_decn hok hd (n := 0) rfl
  subst e1
  obtain ⟨ho, g1, g2, g3, g4, g5⟩ := x_R_arr hR hN
  have K := kk p e s m args below meth c ad nb H locs ls B hR hn he hS hl (List.forall_mem_cons.mpr ⟨trivial, (List.forall_mem_cons.mp hvs).2⟩)
  obtain ⟨cell, c1, c2, c3, c4, c5, c6⟩ := x_arr_T hKn.2.1 g4 g5
  exact W.alen (n := Int32.ofNat n) hx hb c1 (State.isArrayOf_alike hW.alike c2) c5 rfl rfl d1 K
theorem x_cell_upa {ad : Nat → Nat} {a n k : Nat} {ty : FieldType} {f : Nat → Value} {v : Value} {H' : Heap} (h1 : true = true → x_n0 G ≤ a) (h2 : ty ∈ x_tys) (e : H'[a]? = some ((arrV (G.2.2.2.2.1 ty) n (fun j => x_tr ad (f j))).setSlot k (x_tr ad v))) : x_cell G ad a (.inr (true, ty, n, updV f k v)) H' := by
  refine ⟨h1, h2, ?_⟩
  show H'[a]? = some (arrV (G.2.2.2.2.1 ty) n (fun j => x_tr ad (updV f k v j)))
  rw [e, arrV_store]
  congr 2
  funext j
  unfold updV
  by_cases hj : j = k
  · rw [if_pos hj, if_pos hj]
  · rw [if_neg hj, if_neg hj]
theorem X_iast {a n : Nat} {f : Nat → Value} {j : Int32} {x : Int32} (hd : x_at (x_k M) pc = some (.iastore, pc', t)) (hN : N a = some (.inr (true, .int, n, f))) (hin : vp_in j n) (kk : x_W G M Z (x_set N a (.inr (true, .int, n, updV f j.toNatClampNeg (.int x)))) cells slots pc' L st) : x_W G M Z N cells slots pc L (.int x :: .int j :: .ref a :: st) := by
  intro p e s m args below meth c ad nb H locs ls B hR hn he hS hl hvs
  obtain ⟨hx, hb, hml, hr, hlk, hown, hts, hW, hkp, htb, hnm, hKn, hok⟩ := id B
  obtain ⟨d1, e1⟩ := x_decn hok hd (n := 0) rfl
  subst e1
  obtain ⟨ho, g1, g2, g3, g4, g5⟩ := x_R_arr hR hN
  have K := fun H' (z1 : H'[ad a]? = some ((arrV (G.2.2.2.2.1 .int) n (fun j => x_tr ad (f j))).setSlot j.toNatClampNeg (.int x))) (z2 : H'.size = H.size) (z3 : ∀ q, q ≠ ad a → H'[q]? = H[q]?) =>
    kk p e s m args below meth c ad nb H' (locs ++ [⟨ad a, j.toNatClampNeg⟩]) ls B (x_R_put hR ho hN (x_cok_upa g2 (v := .int x) trivial) (x_cell_upa g3 g4 (v := .int x) z1) z3) hn he (hS.put z2 z3 (g3 rfl)) hl (List.forall_mem_cons.mp (List.forall_mem_cons.mp (List.forall_mem_cons.mp hvs).2).2).2
  exact W.iast hx hb g5 (arrOfT_moved hW.alike (hKn.2.1 _ g4).1 n _) (fun q => by cases q) (by rw [arrV_size]; exact hin) rfl rfl d1 K
theorem X_last {a n : Nat} {f : Nat → Value} {j : Int32} {x : Int64} (hd : x_at (x_k M) pc = some (.lastore, pc', t)) (hN : N a = some (.inr (true, .long, n, f))) (hin : vp_in j n) (kk : x_W G M Z (x_set N a (.inr (true, .long, n, updV f j.toNatClampNeg (.long x)))) cells slots pc' L st) : x_W G M Z N cells slots pc L (.long x :: .int j :: .ref a :: st) := by
  intro p e s m args below meth c ad nb H locs ls B hR hn he hS hl hvs
  obtain ⟨hx, hb, hml, hr, hlk, hown, hts, hW, hkp, htb, hnm, hKn, hok⟩ := id B
  obtain ⟨d1, e1⟩ := x_decn hok hd (n := 0) rfl
  subst e1
  obtain ⟨ho, g1, g2, g3, g4, g5⟩ := x_R_arr hR hN
  have K := fun H' (z1 : H'[ad a]? = some ((arrV (G.2.2.2.2.1 .long) n (fun j => x_tr ad (f j))).setSlot j.toNatClampNeg (.long x))) (z2 : H'.size = H.size) (z3 : ∀ q, q ≠ ad a → H'[q]? = H[q]?) =>
    kk p e s m args below meth c ad nb H' (locs ++ [⟨ad a, j.toNatClampNeg⟩]) ls B (x_R_put hR ho hN (x_cok_upa g2 (v := .long x) trivial) (x_cell_upa g3 g4 (v := .long x) z1) z3) hn he (hS.put z2 z3 (g3 rfl)) hl (List.forall_mem_cons.mp (List.forall_mem_cons.mp (List.forall_mem_cons.mp hvs).2).2).2
  exact W.last hx hb g5 (arrOfT_moved hW.alike (hKn.2.1 _ g4).1 n _) (fun q => by cases q) (by rw [arrV_size]; exact hin) rfl rfl d1 K
theorem X_bast {a n : Nat} {f : Nat → Value} {j : Int32} {x : Int32} (hd : x_at (x_k M) pc = some (.bastore, pc', t)) (hN : N a = some (.inr (true, .byte, n, f))) (hin : vp_in j n) (hnar : narrow .byte (.int x) = .int x) (kk : x_W G M Z (x_set N a (.inr (true, .byte, n, updV f j.toNatClampNeg (.int x)))) cells slots pc' L st) : x_W G M Z N cells slots pc L (.int x :: .int j :: .ref a :: st) := by
  intro p e s m args below meth c ad nb H locs ls B hR hn he hS hl hvs
  obtain ⟨hx, hb, hml, hr, hlk, hown, hts, hW, hkp, htb, hnm, hKn, hok⟩ := id B
  obtain ⟨d1, e1⟩ := x_decn hok hd (n := 0) rfl
  subst e1
  obtain ⟨ho, g1, g2, g3, g4, g5⟩ := x_R_arr hR hN
  have K := fun H' (z1 : H'[ad a]? = some ((arrV (G.2.2.2.2.1 .byte) n (fun j => x_tr ad (f j))).setSlot j.toNatClampNeg (.int x))) (z2 : H'.size = H.size) (z3 : ∀ q, q ≠ ad a → H'[q]? = H[q]?) =>
    kk p e s m args below meth c ad nb H' (locs ++ [⟨ad a, j.toNatClampNeg⟩]) ls B (x_R_put hR ho hN (x_cok_upa g2 (v := .int x) trivial) (x_cell_upa g3 g4 (v := .int x) z1) z3) hn he (hS.put z2 z3 (g3 rfl)) hl (List.forall_mem_cons.mp (List.forall_mem_cons.mp (List.forall_mem_cons.mp hvs).2).2).2
  exact W.bast hx hb g5 (arrOfT_moved hW.alike (hKn.2.1 _ g4).1 n _) (fun q => by cases q) (by rw [arrV_size]; exact hin) rfl rfl d1 (fun H1 e z oq => K H1 (by rw [e]; first | rfl | rw [hnar]) z oq)
theorem X_zast {a n : Nat} {f : Nat → Value} {j : Int32} {x : Int32} (hd : x_at (x_k M) pc = some (.bastore, pc', t)) (hN : N a = some (.inr (true, .boolean, n, f))) (hin : vp_in j n) (hnar : narrow .boolean (.int x) = .int x) (kk : x_W G M Z (x_set N a (.inr (true, .boolean, n, updV f j.toNatClampNeg (.int x)))) cells slots pc' L st) : x_W G M Z N cells slots pc L (.int x :: .int j :: .ref a :: st) := by
  intro p e s m args below meth c ad nb H locs ls B hR hn he hS hl hvs
  obtain ⟨hx, hb, hml, hr, hlk, hown, hts, hW, hkp, htb, hnm, hKn, hok⟩ := id B
  obtain ⟨d1, e1⟩ := x_decn hok hd (n := 0) rfl
  subst e1
  obtain ⟨ho, g1, g2, g3, g4, g5⟩ := x_R_arr hR hN
  have K := fun H' (z1 : H'[ad a]? = some ((arrV (G.2.2.2.2.1 .boolean) n (fun j => x_tr ad (f j))).setSlot j.toNatClampNeg (.int x))) (z2 : H'.size = H.size) (z3 : ∀ q, q ≠ ad a → H'[q]? = H[q]?) =>
    kk p e s m args below meth c ad nb H' (locs ++ [⟨ad a, j.toNatClampNeg⟩]) ls B (x_R_put hR ho hN (x_cok_upa g2 (v := .int x) trivial) (x_cell_upa g3 g4 (v := .int x) z1) z3) hn he (hS.put z2 z3 (g3 rfl)) hl (List.forall_mem_cons.mp (List.forall_mem_cons.mp (List.forall_mem_cons.mp hvs).2).2).2
  exact W.zast hx hb g5 (arrOfT_moved hW.alike (hKn.2.1 _ g4).1 n _) (fun q => by cases q) (by rw [arrV_size]; exact hin) rfl rfl d1 (fun H1 e z oq => K H1 (by rw [e]; first | rfl | rw [hnar]) z oq)
theorem x_S_new {A : Nat → Prop} {H0 H H1 : Heap} {locs : List Loc} (h : va_S A H0 H locs) (z : H1.size = H.size + 1) (oq : ∀ q : Nat, q < H.size → H1[q]? = H[q]?) : va_S A H0 H1 locs :=
  ⟨Nat.le_trans h.1 (by omega), fun x h1 h2 => (oq x (Nat.lt_of_lt_of_le h1 h.1)).trans (h.2.1 x h1 h2), h.2.2⟩
theorem x_fits_def (ad : Nat → Nat) (ty : FieldType) : x_tr ad (defaultValue ty) = defaultValue ty := by cases ty <;> rfl
theorem x_vok_def (nb : Nat) (ty : FieldType) : x_vok nb (defaultValue ty) := by cases ty <;> trivial
theorem x_n0_le {s : State} {H : Heap} {locs : List Loc} (hk : x_kept G s.heap) (hS : va_S (x_A G) s.heap H locs) : x_n0 G ≤ H.size := Nat.le_trans hk.1 hS.1
/-- a new cell, named q: what follows, at the machine -/
def x_K (G : XE) (M : XMI) (Z : XZ) (N : XH) (cells slots pc : Nat) (L : List (Option Value)) (st : List Value) (c : XC) : Prop :=
  ∀ (p : Program) (e : Env) (s : State) (m : MethodId) (args : Array Value) (below : List Frame) (meth : Method) (co : Code) (ad : Nat → Nat) (nb : Nat) (H H1 : Heap) (locs : List Loc) (ls : Array Slot),
    x_B G M p s m args meth co → x_R G ad nb N H → Z.2.2.1 ≤ nb → x_ext Z.2.2.1 Z.2.1 ad → va_S (x_A G) s.heap H locs → x_L ad nb (x_nL M) L ls → (∀ v ∈ st, x_vok nb v) →
    x_cok nb c → x_cell G ad H.size c H1 → H1.size = H.size + 1 → (∀ q, q < H.size → H1[q]? = H[q]?) → W p G.1 e Z.1 s m args below meth co H1 locs cells slots (Z.2.2.2 below args s) (F0 m pc ls (.ref H.size :: st.map (x_tr ad)))
theorem x_K_any {c : XC} (h0 : N 0 = none) (kk : ∀ q, N q = none → 64 ≤ q → x_W G M Z (x_set N q c) cells slots pc L (.ref q :: st)) : x_K G M Z N cells slots pc L st c := by
  intro p e s m args below meth co ad nb H H1 locs ls B hR hn he hS hl hvs hc hcell z2 z3
  obtain ⟨r1, r2⟩ := x_R_new hR h0 rfl hc hcell z3
  have ex := x_adn_ext ad nb H.size
  have K := kk nb r2 hR.2.2.2.1 p e s m args below meth co (x_adn ad nb H.size) (nb + 1) H1 locs ls B r1 (Nat.le_succ_of_le hn) (fun k hk => (ex k (Nat.lt_of_lt_of_le hk hn)).trans (he k hk)) (x_S_new hS z2 z3) (x_L_ext ex (Nat.le_succ _) hl) (List.forall_mem_cons.mpr ⟨Nat.lt_succ_self nb, fun v hv => x_vok_mono (Nat.le_succ _) (hvs v hv)⟩)
  have e1 : x_tr (x_adn ad nb H.size) (.ref nb) = .ref H.size := congrArg Value.ref (show x_adn ad nb H.size nb = H.size by unfold x_adn; rw [if_pos rfl])
  rw [List.map_cons, x_map_ext ex hvs, e1] at K
  exact K
/-- .. where the next name is known -/
theorem x_K_gh {c : XC} {f : Nat} (hg : N 0 = some (x_gh f)) (kk : 64 ≤ f → N f = none → x_W G M Z (x_set (x_set N f c) 0 (x_gh (f + 1))) cells slots pc L (.ref f :: st)) : x_K G M Z N cells slots pc L st c := by
  intro p e s m args below meth co ad nb H H1 locs ls B hR hn he hS hl hvs hc hcell z2 z3
  obtain ⟨rr, hf⟩ := x_R_raise hR hg
  have hf64 : 64 ≤ f := rr.2.2.2.1
  obtain ⟨r1, r2⟩ := x_R_new rr (by unfold x_del; rw [if_pos rfl]) rfl (x_cok_mono hf hc) hcell z3
  have r3 := x_R_ghost r1 (Nat.le_refl (f + 1))
  have eN : x_set (x_set (x_del N) f c) 0 (x_gh (f + 1)) = x_set (x_set N f c) 0 (x_gh (f + 1)) := by
    funext k
    unfold x_set x_del
    by_cases k0 : k = 0
    · rw [if_pos k0, if_pos k0]
    · rw [if_neg k0, if_neg k0, if_neg k0]
  rw [eN] at r3
  have hno : N f = none := by
    unfold x_del at r2
    rwa [if_neg (by omega)] at r2
  have ex := x_adn_ext ad f H.size
  have exn : x_ext nb ad (x_adn ad f H.size) := fun k hk => ex k (by omega)
  have K := kk hf64 hno p e s m args below meth co (x_adn ad f H.size) (f + 1) H1 locs ls B r3 (by omega) (fun k hk => (ex k (by omega)).trans (he k hk)) (x_S_new hS z2 z3) (x_L_ext exn (by omega) hl) (List.forall_mem_cons.mpr ⟨Nat.lt_succ_self f, fun v hv => x_vok_mono (by omega) (hvs v hv)⟩)
  have e1 : x_tr (x_adn ad f H.size) (.ref f) = .ref H.size := congrArg Value.ref (show x_adn ad f H.size f = H.size by unfold x_adn; rw [if_pos rfl])
  rw [List.map_cons, x_map_ext exn hvs, e1] at K
  exact K
theorem X_newK {idx ci n : Nat} {C : String} {T : u_T} {ty : Nat → FieldType} (hC : x_CN (x_own M) idx ci C T n ty) (hd : x_at (x_k M) pc = some (.new idx, pc', t)) (hc1 : cells + 1 ≤ Z.1.cells) (hc2 : slots + n ≤ Z.1.slots)
    (kk : x_K G M Z N (cells + 1) (slots + n) pc' L st (.inl (ci, fun k => defaultValue (ty k)))) : x_W G M Z N cells slots pc L st := by
  intro p e s m args below meth c ad nb H locs ls B hR hn he hS hl hvs
  obtain ⟨hx, hb, hml, hr, hlk, hown, hts, hW, hkp, htb, hnm, hKn, hok⟩ := id B
  obtain ⟨d1, e1⟩ := x_decn hok hd (n := 2) rfl
  subst e1
  obtain ⟨⟨hc, hin, hty, hnms⟩, hl1, hl2, hl3⟩ := hC
  have hKu := u_Kn_moved hW.alike (hKn.1 ci _ hc)
  refine W.newcK hx hb hown (hts _ hl1) (hts _ hl2) (hts _ hl3) rfl d1 hc1 hc2 hKu.2.1 rfl fun H1 kC hkC z1 z2 z3 => ?_
  exact kk p e s m args below meth c ad nb H H1 locs ls B hR hn he hS hl hvs (fun r hr j hj => x_vok_def nb _) ⟨x_n0_le hkp hS, _, hc, (u_born ty hts hin hKu hkC z1 hty).to fun k hk => (x_fits_def ad _).symm⟩ z2 z3
theorem X_newaK {atype : ArrayType} {ty : FieldType} {k : Int32} (n : Nat) (hd : x_at (x_k M) pc = some (.newarray atype, pc', t)) (hty : newarray.typeOf atype = ty) (hmem : ty ∈ x_tys) (hcl : Cond.arrayClass ty ∈ x_T) (hk : ¬ k < 0) (hn : k.toNatClampNeg = n) (hsm : n * 8 ≤ 536870912) (hc1 : cells + 1 ≤ Z.1.cells) (hc2 : slots + n ≤ Z.1.slots)
    (kk : x_K G M Z N (cells + 1) (slots + n) pc' L st (.inr (true, ty, n, fun _ => defaultValue ty))) : x_W G M Z N cells slots pc L (.int k :: st) := by
  intro p e s m args below meth c ad nb H locs ls B hR hnb he hS hl hvs
  obtain ⟨hx, hb, hml, hr, hlk, hown, hts, hW, hkp, htb, hnm, hKn, hok⟩ := id B
  obtain ⟨d1, e1⟩ := x_decn hok hd (n := 1) rfl
  subst e1
  subst hty
  have hby : n * componentBytes (newarray.typeOf atype) ≤ 536870912 := by
    have : componentBytes (newarray.typeOf atype) ≤ 8 := by cases atype <;> decide
    exact Nat.le_trans (Nat.mul_le_mul_left n this) hsm
  refine va_newaK hx hb (hts _ hcl) rfl d1 rfl hk hn hby hc1 hc2 rfl fun H1 cA z1 z2 z3 z4 z5 => ?_
  have hra : cA = G.2.2.2.2.1 (newarray.typeOf atype) := by
    have h1 := (hKn.2.1 _ hmem).2
    have h2 : G.2.1.vm.findClass ("[" ++ (newarray.typeOf atype).toString) = some (G.2.2.2.2.1 (newarray.typeOf atype)) := by cases atype <;> exact h1
    rw [hW.alike.findClass] at z5
    exact Option.some.inj (z5.symm.trans h2)
  subst hra
  exact kk p e s m args below meth c ad nb H H1 locs ls B hR hnb he hS hl (List.forall_mem_cons.mp hvs).2 (fun j hj => x_vok_def nb _) ⟨fun _ => x_n0_le hkp hS, hmem, Eq.trans z1 (congrArg some (arrV_ext _ n fun j hj => (x_fits_def ad _).symm))⟩ z2 z3
theorem X_anewK {idx : Nat} {C : String} {k : Int32} (n : Nat) (hd : x_at (x_k M) pc = some (.anewarray idx, pc', t)) (hmem : FieldType.object C ∈ x_tys) (hl1 : Cond.classLink (x_own M) idx C ∈ x_T) (hl2 : Cond.arrayOver (.object C) ∈ lw_tbl) (hk : ¬ k < 0) (hn : k.toNatClampNeg = n) (hsm : n * 4 ≤ 536870912) (hc1 : cells + 1 ≤ Z.1.cells) (hc2 : slots + n ≤ Z.1.slots)
    (kk : x_K G M Z N (cells + 1) (slots + n) pc' L st (.inr (true, .object C, n, fun _ => .null))) : x_W G M Z N cells slots pc L (.int k :: st) := by
  intro p e s m args below meth c ad nb H locs ls B hR hnb he hS hl hvs
  obtain ⟨hx, hb, hml, hr, hlk, hown, hts, hW, hkp, htb, hnm, hKn, hok⟩ := id B
  obtain ⟨d1, e1⟩ := x_decn hok hd (n := 2) rfl
  subst e1
  subst hn
  refine W.anew hx hb hown (hts _ hl1) (va_AO.use (va_AO.moved hW.alike (hKn.2.2.1.2 _ hl2))) rfl d1 rfl hk hsm hc1 hc2 fun cA kA comp z1 z2 z3 z4 => ?_
  have hra : cA = G.2.2.2.2.1 (.object C) := by
    obtain ⟨_, _, _, _, _, h1⟩ := (hKn.2.1 _ hmem).2
    rw [hW.alike.findClass] at z1
    exact Option.some.inj (z1.symm.trans h1)
  subst hra
  have y1 : (H.push { cls := G.2.2.2.2.1 (.object C), slots := Array.replicate k.toNatClampNeg .null, vm := .none })[H.size]? = some (arrV (G.2.2.2.2.1 (.object C)) k.toNatClampNeg (fun _ => .null)) := by
    rw [← arrV_new]; simp
  exact kk p e s m args below meth c ad nb H _ locs ls B hR hnb he hS hl (List.forall_mem_cons.mp hvs).2 (fun j hj => trivial) ⟨fun _ => x_n0_le hkp hS, hmem, y1⟩ (by simp) (fun q hq => by rw [Array.getElem?_push, if_neg (Nat.ne_of_lt hq)])
/-- a reference to an object of the array's own class is stored -/
theorem X_aast {a n v ci : Nat} {C : String} {T : u_T} {nf : Nat} {f V : Nat → Value} {j : Int32} (hd : x_at (x_k M) pc = some (.aastore, pc', t)) (hN : N a = some (.inr (true, .object C, n, f))) (hv : N v = some (.inl (ci, V))) (hc : vwCl[ci]? = some (C, T, nf)) (hin : vp_in j n) (kk : x_W G M Z (x_set N a (.inr (true, .object C, n, updV f j.toNatClampNeg (.ref v)))) cells slots pc' L st) : x_W G M Z N cells slots pc L (.ref v :: .int j :: .ref a :: st) := by
  intro p e s m args below meth c ad nb H locs ls B hR hn he hS hl hvs
  obtain ⟨hx, hb, hml, hr, hlk, hown, hts, hW, hkp, htb, hnm, hKn, hok⟩ := id B
  obtain ⟨d1, e1⟩ := x_decn hok hd (n := 0) rfl
  subst e1
  obtain ⟨ho, g1, g2, g3, g4, g5⟩ := x_R_arr hR hN
  obtain ⟨-, w1, w2, w3, r, w4, cellv, q1, q2, q3, q4⟩ := x_R_obj hR hv hc
  cases hc.symm.trans w4
  have K := fun H' (z1 : H'[ad a]? = some ((arrV (G.2.2.2.2.1 (.object C)) n (fun j => x_tr ad (f j))).setSlot j.toNatClampNeg (.ref (ad v)))) (z2 : H'.size = H.size) (z3 : ∀ q, q ≠ ad a → H'[q]? = H[q]?) =>
    kk p e s m args below meth c ad nb H' (locs ++ [⟨ad a, j.toNatClampNeg⟩]) ls B (x_R_put hR ho hN (x_cok_upa g2 (v := .ref v) w1) (x_cell_upa g3 g4 (v := .ref v) z1) z3) hn he (hS.put z2 z3 (g3 rfl)) hl (List.forall_mem_cons.mp (List.forall_mem_cons.mp (List.forall_mem_cons.mp hvs).2).2).2
  obtain ⟨kA, comp, a1, a2, a3, a4⟩ := (hKn.2.1 _ g4).2.moved hW.alike
  have hcls := (u_Kn_moved hW.alike (hKn.1 ci _ hc)).2
  obtain ⟨hfc, kC, hkC, hkind⟩ := id hcls
  have hcomp : comp = G.2.2.1 ci := Option.some.inj (a3.symm.trans hfc)
  subst hcomp
  exact W.aast hx hb g5 (fun q => by intro h; cases h) (fun q => by cases q) a1 a2 rfl hkC ⟨fun h => hin (Or.inl h), by rw [arrV_size]; exact Nat.not_le.mp fun q => hin (Or.inr q)⟩ q1 (fun q => by rw [q3]; intro h; cases h) (by rw [q2]; exact hkC) (by rw [q2]; exact va_assign hcls) rfl rfl d1 K
end XR2
