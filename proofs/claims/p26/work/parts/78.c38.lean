/-! ===== the rows: references copied, class objects, inherited fields; ArrayList.add ===== -/
/-- the class object of Object[], at name 62; the empty row, at name 2 -/
def x_KM (G : XE) : Prop := va_Mi "[Ljava/lang/Object;" (x_ad G 62) (x_S G) ∧ ∃ f, va_T (.object "java/lang/Object") (x_ad G 2) 0 f (x_A G) (x_S G) (x_S G).heap
/-- an object that an Object[] may hold -/
def y_ob (N : XH) (o : Nat) : Prop := ∃ (ci : Nat) (V : Nat → Value) (C : String) (T : u_T) (nf : Nat), N o = some (.inl (ci, V)) ∧ vwCl[ci]? = some (C, T, nf) ∧ Cond.castable C "java/lang/Object" ∈ lw_tbl
theorem f_Jxc12de_7 : x_FL RJxc12de 7 0 0 .int false := ⟨_, _, _, _, cl_0, by decide, rfl, rfl, Or.inl (x_in 157 (by decide +kernel) rfl)⟩
theorem lmax_J8 : x_Lmax RJ8 194 := ⟨x_in 822 (by decide +kernel) rfl, x_in 823 (by decide +kernel) rfl, x_in 58 (by decide +kernel) rfl, x_in 824 (by decide +kernel) rfl⟩
theorem lmax_JA : x_Lmax RJx4a65c 79 := ⟨x_in 863 (by decide +kernel) rfl, x_in 823 (by decide +kernel) rfl, x_in 58 (by decide +kernel) rfl, x_in 824 (by decide +kernel) rfl⟩
theorem lmin_J7 : x_Lmin RJ7 304 := ⟨x_in 859 (by decide +kernel) rfl, x_in 641 (by decide +kernel) rfl, x_in 58 (by decide +kernel) rfl, x_in 642 (by decide +kernel) rfl⟩
theorem lcpy_J7 : x_Lcpy RJ7 150 := ⟨x_in 860 (by decide +kernel) rfl, x_in 862 (by decide +kernel) rfl, x_in 861 (by decide +kernel) rfl, x_in 60 (by decide +kernel) rfl⟩
section XRN
variable {G : XE} {M : XMI} {Z : XZ} {N : XH} {cells slots pc pc' t : Nat} {L : List (Option Value)} {st : List Value}
/-- an inherited field -/
theorem X_getI {idx ci k o n : Nat} {ref C : String} {T : u_T} {tys : Nat → FieldType} {V : Nat → Value} {v : Value} (hcl : x_Cl ci C T n tys) (hk : k < n) (hlink : Cond.fieldLink (x_own M) idx ref (T k).2.1 (T k).2.2.1 ∈ x_T) (hsame : Cond.sameField ref (T k).1 (T k).2.1 (T k).2.2.1 ∈ x_T) (hd : x_at (x_k M) pc = some (.getfield idx, pc', t)) (hN : N o = some (.inl (ci, V))) (hv : V k = v) (kk : x_W G M Z N cells slots pc' L (v :: st)) : x_W G M Z N cells slots pc L (.ref o :: st) := by
  intro p e s m args below meth c ad nb H locs ls B hR hn he hS hl hvs
  obtain ⟨hx, hb, hml, hr, hlk, hown, hts, hW, hkp, htb, hnm, hKn, hok⟩ := id B
  obtain ⟨d1, e1⟩ := x_decn hok hd (n := 2) rfl
  subst e1
  obtain ⟨hc, hin, hty, hnms⟩ := hcl
  obtain ⟨ho, g1, g2, g3, r, g4, cell, q1, q2, q3, q4⟩ := x_R_obj hR hN hc
  cases hc.symm.trans g4
  obtain ⟨hSl, hfc, kC, hkC, hkind⟩ := u_Kn_moved hW.alike (hKn.1 ci _ hc)
  obtain ⟨cf, kf, fi, f, hi, hsl⟩ := hSl k hk
  have K := kk p e s m args below meth c ad nb H locs ls B hR hn he hS hl (List.forall_mem_cons.mpr ⟨by rw [← hv]; exact g2 _ hc k hk, (List.forall_mem_cons.mp hvs).2⟩)
  have hst := (u_facts hfc hkC (u_lays hts hin hk) hi).1
  have hslot : cell.slots[f.slot]? = some (x_tr ad v) := by rw [hsl, q4 k hk]; exact congrArg (fun z => some (x_tr ad z)) hv
  exact W.getf hx hb hown (hts _ hlink) (u_same (hts _ hsame) _ hi) hst q1 (by rw [q3]; exact fun h => by cases h) hslot rfl rfl d1 K
theorem X_putI {idx ci k o n : Nat} {ref C : String} {T : u_T} {tys : Nat → FieldType} {V : Nat → Value} {v : Value} (hcl : x_Cl ci C T n tys) (hk : k < n) (hfin : (T k).2.2.2 = false) (hlink : Cond.fieldLink (x_own M) idx ref (T k).2.1 (T k).2.2.1 ∈ x_T) (hsame : Cond.sameField ref (T k).1 (T k).2.1 (T k).2.2.1 ∈ x_T) (hd : x_at (x_k M) pc = some (.putfield idx, pc', t)) (hN : N o = some (.inl (ci, V))) (hv : narrow (tys k) v = v ∧ fits (tys k) v = true) (kk : x_W G M Z (x_set N o (.inl (ci, updV V k v))) cells slots pc' L st) : x_W G M Z N cells slots pc L (v :: .ref o :: st) := by
  intro p e s m args below meth c ad nb H locs ls B hR hn he hS hl hvs
  obtain ⟨hx, hb, hml, hr, hlk, hown, hts, hW, hkp, htb, hnm, hKn, hok⟩ := id B
  obtain ⟨d1, e1⟩ := x_decn hok hd (n := 2) rfl
  subst e1
  obtain ⟨hc, hin, hty, hnms⟩ := id hcl
  obtain ⟨ho, g1, g2, g3, r, g4, cell, q1, q2, q3, q4⟩ := x_R_obj hR hN hc
  cases hc.symm.trans g4
  have hKu := u_Kn_moved hW.alike (hKn.1 ci _ hc)
  obtain ⟨hSl, hfc, kC, hkC, hkind⟩ := id hKu
  obtain ⟨cf, kf, fi, f, hi, hsl⟩ := hSl k hk
  have hlay := hts _ (hin _ (u_in_lay hk))
  unfold u_lay at hlay
  rw [if_neg (by rw [hfin]; decide)] at hlay
  have hst := (u_facts hfc hkC (u_lays hts hin hk) hi).1
  have hv2 := x_tr_fits (ad := ad) hv
  have h6 := u_store hfc hkC hkind hlay hi (hty k hk) hv2.1 hv2.2
  have hvv := hvs v List.mem_cons_self
  have K := fun H' (z1 : H'[ad o]? = some (cell.setSlot f.slot (x_tr ad v))) (z2 : H'.size = H.size) (z3 : ∀ q, q ≠ ad o → H'[q]? = H[q]?) =>
    kk p e s m args below meth c ad nb H' (locs ++ [⟨ad o, f.slot⟩]) ls B (x_R_put hR ho hN (x_cok_upd g2 hvv) (x_cell_put hcl hts hKu hk g3 q2 q3 q4 (by rw [z1, hsl])) z3) hn he (hS.put z2 z3 g3) hl (List.forall_mem_cons.mp (List.forall_mem_cons.mp hvs).2).2
  exact W.putK hx hb ⟨hown, hts _ hlink, ⟨_, _, _, u_same (hts _ hsame) _ hi⟩, hst⟩ (by rw [q2]; exact h6) q1 q3 (by rw [hsl]; exact k2_hasslot (q4 k hk)) rfl rfl d1 K
/-- an object is stored in an Object[] -/
theorem X_aastO {a n v : Nat} {f : Nat → Value} {j : Int32} (hd : x_at (x_k M) pc = some (.aastore, pc', t)) (hN : N a = some (.inr (true, .object "java/lang/Object", n, f))) (hv : y_ob N v) (hin : vp_in j n) (kk : x_W G M Z (x_set N a (.inr (true, .object "java/lang/Object", n, updV f j.toNatClampNeg (.ref v)))) cells slots pc' L st) : x_W G M Z N cells slots pc L (.ref v :: .int j :: .ref a :: st) := by
  intro p e s m args below meth c ad nb H locs ls B hR hn he hS hl hvs
  obtain ⟨hx, hb, hml, hr, hlk, hown, hts, hW, hkp, htb, hnm, hKn, hok⟩ := id B
  obtain ⟨d1, e1⟩ := x_decn hok hd (n := 0) rfl
  subst e1
  obtain ⟨ci, V, C, T, nf, hv1, hc, hca⟩ := hv
  obtain ⟨ho, g1, g2, g3, g4, g5⟩ := x_R_arr hR hN
  obtain ⟨-, w1, w2, w3, r, w4, cellv, q1, q2, q3, q4⟩ := x_R_obj hR hv1 hc
  cases hc.symm.trans w4
  have K := fun H' (z1 : H'[ad a]? = some ((arrV (G.2.2.2.2.1 (.object "java/lang/Object")) n (fun j => x_tr ad (f j))).setSlot j.toNatClampNeg (.ref (ad v)))) (z2 : H'.size = H.size) (z3 : ∀ q, q ≠ ad a → H'[q]? = H[q]?) =>
    kk p e s m args below meth c ad nb H' (locs ++ [⟨ad a, j.toNatClampNeg⟩]) ls B (x_R_put hR ho hN (x_cok_upa g2 (v := .ref v) w1) (x_cell_upa g3 g4 (v := .ref v) z1) z3) hn he (hS.put z2 z3 (g3 rfl)) hl (List.forall_mem_cons.mp (List.forall_mem_cons.mp (List.forall_mem_cons.mp hvs).2).2).2
  obtain ⟨kA, comp, a1, a2, a3, a4⟩ := (hKn.2.1 _ g4).2.moved hW.alike
  obtain ⟨hfc, kC, hkC, hkind⟩ := (u_Kn_moved hW.alike (hKn.1 ci _ hc)).2
  obtain ⟨c1, c2, b1, b2, b3⟩ := Cond.castable_spec (va_Nw.use (A := args) rfl (va_Nw.warmC hW (hKn.2.2.1.1 _ hca rfl)))
  cases hfc.symm.trans b1
  cases a3.symm.trans b2
  obtain ⟨kE, hkE, -⟩ := Vm.findClass_spec a3
  exact W.aast hx hb g5 (fun q => by intro h; cases h) (fun q => by cases q) a1 a2 rfl hkE ⟨fun h => hin (Or.inl h), by rw [arrV_size]; exact Nat.not_le.mp fun q => hin (Or.inr q)⟩ q1 (fun q => by rw [q3]; intro h; cases h) (by rw [q2]; exact hkC) (by rw [q2]; exact b3) rfl rfl d1 K
theorem X_acmp_ne {rx ry : Option Nat} {off : Int} (hd : x_at (x_k M) pc = some (.if_acmp .ne off, pc', t)) (kt : ¬ rx = ry → x_W G M Z N cells slots t L st) (kf : x_W G M Z N cells slots pc' L st) (hne : rx = ry) : x_W G M Z N cells slots pc L (va_rf ry :: va_rf rx :: st) := by
  intro p e s m args below meth c ad nb H locs ls B hR hn he hS hl hvs
  have hok := B.2.2.2.2.2.2.2.2.2.2.2.2
  obtain ⟨d1, e1⟩ := x_decn hok hd (n := 2) rfl
  subst e1
  have hv := (List.forall_mem_cons.mp (List.forall_mem_cons.mp hvs).2).2
  have er : ∀ r : Option Nat, x_tr ad (va_rf r) = va_rf (r.map ad) := fun r => by cases r <;> rfl
  show W _ _ _ _ _ _ _ _ _ _ _ _ _ _ _ (F0 m pc ls (x_tr ad (va_rf ry) :: x_tr ad (va_rf rx) :: st.map (x_tr ad)))
  rw [er, er]
  exact lv_acmp_ne B.1 B.2.1 d1 ((x_dec hok hd).2.2.2 _ rfl) (fun h => absurd (by rw [hne]) h) (fun _ => kf p e s m args below meth c ad nb H locs ls B hR hn he hS hl hv)
/-- the class constant Object[] -/
theorem X_ldcM {idx : Nat} (hM : x_KM G) (hlink : Cond.classLink (x_own M) idx "[Ljava/lang/Object;" ∈ x_T) (hd : x_at (x_k M) pc = some (.ldc idx, pc', t)) (kk : x_W G M Z N cells slots pc' L (.ref 62 :: st)) : x_W G M Z N cells slots pc L st := by
  intro p e s m args below meth c ad nb H locs ls B hR hn he hS hl hvs
  obtain ⟨hx, hb, hml, hr, hlk, hown, hts, hW, hkp, htb, hnm, hKn, hok⟩ := id B
  obtain ⟨d1, e1⟩ := x_decn hok hd (n := 1) rfl
  subst e1
  have ea : ad 62 = x_ad G 62 := hR.2.2.1 62 (by decide)
  have K := kk p e s m args below meth c ad nb H locs ls B hR hn he hS hl (List.forall_mem_cons.mpr ⟨Nat.lt_of_lt_of_le (by decide) hR.2.2.2.1, hvs⟩)
  rw [List.map_cons, show x_tr ad (.ref 62) = .ref (x_ad G 62) from congrArg Value.ref ea] at K
  exact va_ldcM hx hb hown (hts _ hlink) (hM.1.moved hW.alike) d1 K
end XRN
section XRF
variable {G : XE} {M : XMI} {d mc ms nb0 : Nat} {ad0 : Nat → Nat} {Qn : XH → Option Value → Prop} {Qx : XH → String → Prop} {N : XH} {cells slots pc pc' t : Nat} {L : List (Option Value)} {st : List Value}
theorem X_getC {idx a n : Nat} {f : Nat → Value} (hM : x_KM G) (hlink : Cond.methodLink (x_own M) idx ⟨"java/lang/Object", "getClass", "()Ljava/lang/Class;"⟩ ∈ x_T) (hN : N a = some (.inr (true, .object "java/lang/Object", n, f))) (hd : x_at (x_k M) pc = some (.invokevirtual idx, pc', t)) (hf : 1 ≤ d) (hs : (st.map fun v => v.category).sum ≤ 80) (kk : x_W G M (x_Z G d mc ms ad0 nb0 Qn Qx) N cells slots pc' L (.ref 62 :: st)) : x_W G M (x_Z G d mc ms ad0 nb0 Qn Qx) N cells slots pc L (.ref a :: st) := by
  intro p e s m args below meth c ad nb H locs ls B hR hn he hS hl hvs
  obtain ⟨hx, hb, hml, hr, hlk, hown, hts, hW, hkp, htb, hnm, hKn, hok⟩ := id B
  obtain ⟨d1, e1⟩ := x_decn hok hd (n := 2) rfl
  subst e1
  obtain ⟨ho, g1, g2, g3, g4, g5⟩ := x_R_arr hR hN
  have ea : ad 62 = x_ad G 62 := hR.2.2.1 62 (by decide)
  have K := kk p e s m args below meth c ad nb H locs ls B hR hn he hS hl (List.forall_mem_cons.mpr ⟨Nat.lt_of_lt_of_le (by decide) hR.2.2.2.1, (List.forall_mem_cons.mp hvs).2⟩)
  rw [List.map_cons, show x_tr ad (.ref 62) = .ref (x_ad G 62) from congrArg Value.ref ea] at K
  exact va_getC (C := "[Ljava/lang/Object;") hx hb (hml.trans hl.1.1.symm) hown (hts _ hlink) (va_Nw.use (A := args) rfl (va_Nw.warmD hW (hKn.2.2.1.1 _ (show Cond.declares ⟨"java/lang/Object", "getClass", "()Ljava/lang/Class;"⟩ ∈ lw_tbl from List.mem_of_getElem? (i := 1497) (by decide +kernel)) rfl))) (hts _ (x_in 1496 (by decide +kernel) rfl)) (hts _ (x_in 833 (by decide +kernel) rfl)) (hts _ (x_in 852 (by decide +kernel) rfl)) (hM.1.moved hW.alike)
    ⟨_, g5, rfl, va_nmO ((hKn.2.1 _ g4).2.moved hW.alike) rfl⟩ hf (by show ((st.map (x_tr ad)).map fun v => v.category).sum + 14 ≤ 100 * d; rw [x_cat_sum]; omega) d1 K
theorem x_cpy_ok {nb n0 n1 : Nat} {mu mu' : Bool} {ty ty' : FieldType} {f g : Nat → Value} {sp dp n : Nat} (h0 : x_cok nb (.inr (mu, ty, n0, f))) (h1 : x_cok nb (.inr (mu', ty', n1, g))) (h4 : sp + n ≤ n0) (h5 : dp + n ≤ n1) : x_cok nb (.inr (mu', ty', n1, va_cpy f g sp dp n)) := fun j hj => by
  unfold va_cpy
  by_cases h : dp ≤ j ∧ j < dp + n
  · rw [if_pos h]; exact h0 _ (by omega)
  · rw [if_neg h]; exact h1 _ hj
theorem X_copyr {idx a b n0 n1 : Nat} {f g : Nat → Value} {sp dp n : Int32} (hl : x_Lcpy (x_own M) idx) (hd : x_at (x_k M) pc = some (.invokestatic idx, pc', t)) (hN0 : N a = some (.inr (true, .object "java/lang/Object", n0, f))) (hN1 : N b = some (.inr (true, .object "java/lang/Object", n1, g))) (hel : ∀ i, i < n.toNatClampNeg → ∃ y, f (sp.toNatClampNeg + i) = .ref y ∧ y_ob N y) (h1 : ¬ sp < 0) (h2 : ¬ dp < 0) (h3 : ¬ n < 0) (h4 : sp.toNatClampNeg + n.toNatClampNeg ≤ n0) (h5 : dp.toNatClampNeg + n.toNatClampNeg ≤ n1) (hf : 1 ≤ d) (hs : (st.map fun v => v.category).sum ≤ 80) (kk : x_W G M (x_Z G d mc ms ad0 nb0 Qn Qx) (x_set N b (.inr (true, .object "java/lang/Object", n1, va_cpy f g sp.toNatClampNeg dp.toNatClampNeg n.toNatClampNeg))) cells slots pc' L st) : x_W G M (x_Z G d mc ms ad0 nb0 Qn Qx) N cells slots pc L (.int n :: .int dp :: .ref b :: .int sp :: .ref a :: st) := by
  have nn : ∀ z : Int32, ¬ z < 0 → z.toInt = (z.toNatClampNeg : Int) := by
    intro z hz
    have hz0 : (0 : Int) ≤ z.toInt := by
      have := Int32.not_lt.mp hz
      simpa using Int32.le_iff_toInt_le.mp this
    show z.toInt = ((z.toInt.toNat : Nat) : Int)
    omega
  intro p e s m args below meth c ad nb H locs ls B hR hnb he hS hl0 hvs
  obtain ⟨hx, hb, hml, hr, hlk, hown, hts, hW, hkp, htb, hnm, hKn, hok⟩ := id B
  obtain ⟨d1, e1⟩ := x_decn hok hd (n := 2) rfl
  subst e1
  obtain ⟨l1, l2, l3, l4⟩ := hl
  obtain ⟨-, p1, p2, p3, p4, p5⟩ := x_R_arr hR hN0
  obtain ⟨ho, g1, g2, g3, g4, g5⟩ := x_R_arr hR hN1
  have hc0 : H[ad a]? = some (arrV (G.2.2.2.2.1 (.object "java/lang/Object")) n0 (fun j => x_tr ad (f j))) := p5
  have hc1 : H[ad b]? = some (arrV (G.2.2.2.2.1 (.object "java/lang/Object")) n1 (fun j => x_tr ad (g j))) := g5
  have hA : x_A G (ad b) := g3 rfl
  obtain ⟨-, k0, hk0, cm0, hkk0⟩ := arrOfT_moved hW.alike (hKn.2.1 _ g4).1 n0 (fun j => x_tr ad (f j))
  obtain ⟨-, k1, hk1, cm1, hkk1⟩ := arrOfT_moved hW.alike (hKn.2.1 _ g4).1 n1 (fun j => x_tr ad (g j))
  intro T hT X
  obtain ⟨vm', X', step⟩ := X.arraycopy hx hown (hts _ l1) (hts _ l2) (hts _ l3) (hts _ l4) (src := ad a) (dst := ad b) (cs := arrV (G.2.2.2.2.1 (.object "java/lang/Object")) n0 (fun j => x_tr ad (f j))) (cd := arrV (G.2.2.2.2.1 (.object "java/lang/Object")) n1 (fun j => x_tr ad (g j))) (srcPos := sp) (destPos := dp) (n := n) (by rw [hT]; exact hc0) (by rw [hT]; exact hc1)
    (fun _ h => by cases h) (fun _ h => by cases h) (fun h => by cases h) (fun h => by cases h) hk0 hk1 hkk0 hkk1 rfl h1 h2 h3
    (by rw [nn sp h1, nn n h3, arrV_size]; omega)
    (by rw [nn dp h2, nn n h3, arrV_size]; omega)
    (fun vm₁ hal i hi => by
      obtain ⟨y, hy, ci, V, C, T9, nf, hv1, hc, hca⟩ := hel i hi
      obtain ⟨-, w1, w2, w3, r, w4, cellv, z1, z2, z3, z4⟩ := x_R_obj hR hv1 hc
      cases hc.symm.trans w4
      obtain ⟨hfc, kC, hkC, hkind⟩ := (u_Kn_moved hW.alike (hKn.1 ci _ hc)).2
      obtain ⟨c1, c2, b1, b2, b3⟩ := Cond.castable_spec (va_Nw.use (A := args) rfl (va_Nw.warmC hW (hKn.2.2.1.1 _ hca rfl)))
      cases hfc.symm.trans b1
      obtain ⟨kA, comp, r1, r2, r3, -⟩ := (hKn.2.1 _ g4).2.moved hW.alike
      cases r3.symm.trans b2
      cases hk1.symm.trans r1
      cases hkk1.symm.trans r2
      obtain ⟨kE, hkE, -⟩ := Vm.findClass_spec r3
      obtain ⟨kC', hkC', -⟩ := hal.2.2 _ _ hkC
      obtain ⟨kE', hkE', -⟩ := hal.2.2 _ _ hkE
      have e : (arrV (G.2.2.2.2.1 (.object "java/lang/Object")) n0 (fun j => x_tr ad (f j))).slots.getD (sp.toNatClampNeg + i) .null = .ref (ad y) := by
        rw [Array.getD_eq_getD_getElem?, arrV_read _ _ (by omega), hy]
        rfl
      rw [e]
      refine ⟨rfl, cellv, (show T.heap[ad y]? = some cellv by rw [hT]; exact z1), (fun q h => by rw [z3] at h; cases h), ⟨kC', by rw [z2]; exact hkC'⟩, ?_, ?_⟩
      · exact ⟨kE', hkE'⟩
      · show vm₁.assignable _ _ = true
        rw [hal.assignable, z2]
        exact b3)
    (g := F0 m pc ls (.int n :: .int dp :: .ref (ad b) :: .int sp :: .ref (ad a) :: st.map (x_tr ad))) rfl (by show ls.size = _; exact (hml.trans hl0.1.1.symm).symm) (rest := st.map (x_tr ad)) rfl (by rw [hb]; exact d1) hf (by
      have h18 : nativeFrameWords "java/lang/System" "arraycopy" 5 = 7 := by decide +kernel
      show 2 * 0 + ((st.map (x_tr ad)).map fun v => v.category).sum + _ ≤ 100 * d
      rw [x_cat_sum, h18]
      omega)
  have ec : copied (arrV (G.2.2.2.2.1 (.object "java/lang/Object")) n0 (fun j => x_tr ad (f j))) (arrV (G.2.2.2.2.1 (.object "java/lang/Object")) n1 (fun j => x_tr ad (g j))) sp dp n = arrV (G.2.2.2.2.1 (.object "java/lang/Object")) n1 (fun j => x_tr ad (va_cpy f g sp.toNatClampNeg dp.toNatClampNeg n.toNatClampNeg j)) := va_copied (fun z => x_tr ad z) _ _ f g h4
  rw [ec] at X' step
  have hlt : ad b < H.size := (Array.getElem?_eq_some_iff.mp hc1).1
  generalize hcn : arrV (G.2.2.2.2.1 (.object "java/lang/Object")) n1 (fun j => x_tr ad (va_cpy f g sp.toNatClampNeg dp.toNatClampNeg n.toNatClampNeg j)) = cn at X' step
  have hheap : ((T.setVm vm').setCell (ad b) cn).heap = H.setIfInBounds (ad b) cn := by rw [← hT]; rfl
  have oq : ∀ q : Nat, q ≠ ad b → (H.setIfInBounds (ad b) cn)[q]? = H[q]? := fun q hq => by simp [Array.getElem?_setIfInBounds, Ne.symm hq]
  obtain ⟨t, a1, b1⟩ := kk p e s m args below meth c ad nb (H.setIfInBounds (ad b) cn) _ ls B
    (x_R_put hR ho hN1 (c' := .inr (true, .object "java/lang/Object", n1, va_cpy f g sp.toNatClampNeg dp.toNatClampNeg n.toNatClampNeg)) (x_cpy_ok p2 g2 h4 h5) ⟨g3, g4, by show (H.setIfInBounds (ad b) cn)[ad b]? = _; rw [show (H.setIfInBounds (ad b) cn)[ad b]? = some cn by simp [Array.getElem?_setIfInBounds, hlt], ← hcn]⟩ oq) hnb he
    ⟨by simp; exact hS.1, fun q q1 q2 => by
      rw [oq q (fun e => q2 (by rw [e]; exact hA))]
      exact hS.2.1 q q1 q2, fun q hq => by
      rcases List.mem_append.mp hq with h | h
      · exact hS.2.2 q h
      · obtain ⟨z, -, hz⟩ := List.mem_map.mp h
        rw [← hz]
        exact hA⟩ hl0 (List.forall_mem_cons.mp (List.forall_mem_cons.mp (List.forall_mem_cons.mp (List.forall_mem_cons.mp (List.forall_mem_cons.mp hvs).2).2).2).2).2 _ hheap X'
  exact ⟨t, step t a1, b1⟩
theorem X_icallP {Mc : XMI} {idx n d' mc' ms' o : Nat} {st As rest : List Value} {Q : XH → Option Value → Prop} (hk : x_LI (x_own M) idx n Mc) (hM : x_M G Mc d' mc' ms' (.ref o :: As) N Q x_noX)
    (hd : x_at (x_k M) pc = some (.invokespecial idx, pc', t)) (hst : st = As.reverse ++ .ref o :: rest) (hn : As.length = n) (hrest : (rest.map fun v => v.category).sum ≤ 8) (hL : x_nL Mc ≤ 81) (hdd : d' + 1 ≤ d) (h1 : cells + mc' ≤ mc) (h2 : slots + ms' ≤ ms)
    (kk : ∀ (N1 : XH) (r : Option Value), Q N1 r → x_W G M (x_Z G d mc ms ad0 nb0 Qn Qx) N1 (cells + mc') (slots + ms') pc' L (r.toList ++ rest)) : x_W G M (x_Z G d mc ms ad0 nb0 Qn Qx) N cells slots pc L st :=
  X_callI hk hM hd hst hn hrest (x_fit_of hL hdd h1 h2) kk
theorem X_icallv {Mc : XMI} {N1 : XH} {idx n d' mc' ms' o : Nat} {st As rest : List Value} (hk : x_LI (x_own M) idx n Mc) (hM : x_M G Mc d' mc' ms' (.ref o :: As) N (x_RetV N1) x_noX)
    (hd : x_at (x_k M) pc = some (.invokespecial idx, pc', t)) (hst : st = As.reverse ++ .ref o :: rest) (hn : As.length = n) (hrest : (rest.map fun v => v.category).sum ≤ 8) (hL : x_nL Mc ≤ 81) (hdd : d' + 1 ≤ d) (h1 : cells + mc' ≤ mc) (h2 : slots + ms' ≤ ms)
    (kk : x_W G M (x_Z G d mc ms ad0 nb0 Qn Qx) N1 (cells + mc') (slots + ms') pc' L rest) : x_W G M (x_Z G d mc ms ad0 nb0 Qn Qx) N cells slots pc L st :=
  X_callI hk hM hd hst hn hrest (x_fit_of hL hdd h1 h2) (fun N' r h => by obtain ⟨rfl, rfl⟩ := h; exact kk)
theorem X_icallNP {Mc : XMI} {host : String} {idx n d' mc' ms' o : Nat} {st As rest : List Value} {Q : XH → Option Value → Prop} (hk : x_LIN (x_own M) idx n Mc host) (hM : x_M G Mc d' mc' ms' (.ref o :: As) N Q x_noX)
    (hd : x_at (x_k M) pc = some (.invokespecial idx, pc', t)) (hst : st = As.reverse ++ .ref o :: rest) (hn : As.length = n) (hrest : (rest.map fun v => v.category).sum ≤ 8) (hL : x_nL Mc ≤ 81) (hdd : d' + 1 ≤ d) (h1 : cells + mc' ≤ mc) (h2 : slots + ms' ≤ ms)
    (kk : ∀ (N1 : XH) (r : Option Value), Q N1 r → x_W G M (x_Z G d mc ms ad0 nb0 Qn Qx) N1 (cells + mc') (slots + ms') pc' L (r.toList ++ rest)) : x_W G M (x_Z G d mc ms ad0 nb0 Qn Qx) N cells slots pc L st :=
  X_callIN hk hM hd hst hn hrest (x_fit_of hL hdd h1 h2) kk
theorem X_scallP {Mc : XMI} {idx n d' mc' ms' : Nat} {st As rest : List Value} {Q : XH → Option Value → Prop} (hk : x_LS (x_own M) idx n Mc) (hM : x_M G Mc d' mc' ms' As N Q x_noX)
    (hd : x_at (x_k M) pc = some (.invokestatic idx, pc', t)) (hst : st = As.reverse ++ rest) (hn : As.length = n) (hrest : (rest.map fun v => v.category).sum ≤ 8) (hL : x_nL Mc ≤ 81) (hdd : d' + 1 ≤ d) (h1 : cells + mc' ≤ mc) (h2 : slots + ms' ≤ ms)
    (kk : ∀ (N1 : XH) (r : Option Value), Q N1 r → x_W G M (x_Z G d mc ms ad0 nb0 Qn Qx) N1 (cells + mc') (slots + ms') pc' L (r.toList ++ rest)) : x_W G M (x_Z G d mc ms ad0 nb0 Qn Qx) N cells slots pc L st :=
  X_callS hk hM hd hst hn hrest (x_fit_of hL hdd h1 h2) (fun _ _ h => h.elim) kk
end XRF
