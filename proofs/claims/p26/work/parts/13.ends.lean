/-! ===== the rows: ends, entries, calls ===== -/
section XR3
variable {G : XE} {M : XMI} {d mc ms : Nat} {ad0 : Nat → Nat} {nb0 : Nat} {Qn : XH → Option Value → Prop} {Qx : XH → String → Prop} {N : XH} {cells slots pc pc' t : Nat} {L : List (Option Value)}
theorem X_iret {x : Int32} (hd : x_at (x_k M) pc = some (.ireturn, pc', t)) (hr : x_ret M = some .int) (hq : Qn N (some (.int x))) (h1 : cells ≤ mc) (h2 : slots ≤ ms) : x_W G M (x_Z G d mc ms ad0 nb0 Qn Qx) N cells slots pc L [.int x] := by
  intro p e s m args below meth c ad nb H locs ls B hR hn he hS hl hvs
  obtain ⟨d1, e1⟩ := x_decn B.2.2.2.2.2.2.2.2.2.2.2.2 hd (n := 0) rfl
  exact W.widen h1 h2 (vx_ret (W.widen (Nat.le_refl _) (Nat.le_refl _) (W.iret B.1 B.2.1 (B.2.2.2.1.trans hr) (fun t ht hWt => ⟨⟨ad, nb, N, some (.int x), rfl, hn, he, by rw [ht]; exact hR, fun v hv => by cases hv; trivial, hq⟩, hS.F ht⟩) hS.2.2 d1 B.2.2.2.2.1)))
theorem X_zret {x : Int32} {ty : FieldType} (hd : x_at (x_k M) pc = some (.ireturn, pc', t)) (hr : x_ret M = some ty) (hnr : narrow ty (.int x) = .int x) (hq : Qn N (some (.int x))) (h1 : cells ≤ mc) (h2 : slots ≤ ms) : x_W G M (x_Z G d mc ms ad0 nb0 Qn Qx) N cells slots pc L [.int x] := by
  intro p e s m args below meth c ad nb H locs ls B hR hn he hS hl hvs
  obtain ⟨d1, e1⟩ := x_decn B.2.2.2.2.2.2.2.2.2.2.2.2 hd (n := 0) rfl
  exact W.widen h1 h2 (vx_ret (W.zret B.1 B.2.1 (B.2.2.2.1.trans hr) hnr (fun t ht hWt => ⟨⟨ad, nb, N, some (.int x), rfl, hn, he, by rw [ht]; exact hR, fun v hv => by cases hv; trivial, hq⟩, hS.F ht⟩) hS.2.2 d1 B.2.2.2.2.1))
theorem X_lret {x : Int64} (hd : x_at (x_k M) pc = some (.lreturn, pc', t)) (hr : x_ret M = some .long) (hq : Qn N (some (.long x))) (h1 : cells ≤ mc) (h2 : slots ≤ ms) : x_W G M (x_Z G d mc ms ad0 nb0 Qn Qx) N cells slots pc L [.long x] := by
  intro p e s m args below meth c ad nb H locs ls B hR hn he hS hl hvs
  obtain ⟨d1, e1⟩ := x_decn B.2.2.2.2.2.2.2.2.2.2.2.2 hd (n := 0) rfl
  exact W.widen h1 h2 (vx_ret (W.lret B.1 B.2.1 (B.2.2.2.1.trans hr) (fun t ht hWt => ⟨⟨ad, nb, N, some (.long x), rfl, hn, he, by rw [ht]; exact hR, fun v hv => by cases hv; trivial, hq⟩, hS.F ht⟩) hS.2.2 d1 B.2.2.2.2.1))
theorem X_vret (hd : x_at (x_k M) pc = some (.return_, pc', t)) (hr : x_ret M = none) (hq : Qn N none) (h1 : cells ≤ mc) (h2 : slots ≤ ms) : x_W G M (x_Z G d mc ms ad0 nb0 Qn Qx) N cells slots pc L [] := by
  intro p e s m args below meth c ad nb H locs ls B hR hn he hS hl hvs
  obtain ⟨d1, e1⟩ := x_decn B.2.2.2.2.2.2.2.2.2.2.2.2 hd (n := 0) rfl
  exact W.widen h1 h2 (vx_ret (W.vret B.1 B.2.1 (B.2.2.2.1.trans hr) (fun t ht hWt => ⟨⟨ad, nb, N, none, rfl, hn, he, by rw [ht]; exact hR, fun v hv => (nomatch hv), hq⟩, hS.F ht⟩) hS.2.2 d1 B.2.2.2.2.1))
theorem X_aret {v : Value} {rt : FieldType} (hd : x_at (x_k M) pc = some (.areturn, pc', t)) (hr : x_ret M = some rt) (hrt : (∃ n, rt = .object n) ∨ ∃ t, rt = .array t) (hv : v = .null ∨ ∃ a, v = .ref a) (hq : Qn N (some v)) (h1 : cells ≤ mc) (h2 : slots ≤ ms) : x_W G M (x_Z G d mc ms ad0 nb0 Qn Qx) N cells slots pc L [v] := by
  intro p e s m args below meth c ad nb H locs ls B hR hn he hS hl hvs
  obtain ⟨d1, e1⟩ := x_decn B.2.2.2.2.2.2.2.2.2.2.2.2 hd (n := 0) rfl
  have hv' : x_tr ad v = .null ∨ ∃ a, x_tr ad v = .ref a := by
    rcases hv with rfl | ⟨a, rfl⟩
    · exact Or.inl rfl
    · exact Or.inr ⟨ad a, rfl⟩
  exact W.widen h1 h2 (vx_ret (W.aret B.1 B.2.1 (B.2.2.2.1.trans hr) hrt hv' (fun t ht hWt => ⟨⟨ad, nb, N, some v, rfl, hn, he, by rw [ht]; exact hR, fun w hw => by cases hw; exact hvs v List.mem_cons_self, hq⟩, hS.F ht⟩) hS.2.2 d1 B.2.2.2.2.1))
/-! entry -/
def x_lay : List Value → List (Option Value)
  | [] => []
  | v :: vs => bif Nat.beq v.category 2 then some v :: none :: x_lay vs else some v :: x_lay vs
theorem x_lay_get (ad : Nat → Nat) : ∀ (args : List Value) (i0 i : Nat) (v : Value), (x_lay args)[i]? = some (some v) → (i0 + i, x_tr ad v) ∈ lv_args i0 (args.map (x_tr ad)) ∧ v ∈ args
  | [], i0, i, v, h => by simp [x_lay] at h
  | w :: vs, i0, i, v, h => by
    unfold x_lay at h
    rw [List.map_cons]
    unfold lv_args
    rw [x_tr_cat]
    cases hb : Nat.beq w.category 2 with
    | true =>
      rw [hb] at h
      have hc : w.category = 2 := Nat.eq_of_beq_eq_true hb
      rw [if_pos hc]
      cases i with
      | zero =>
        simp at h
        subst h
        exact ⟨List.mem_cons_self, List.mem_cons_self⟩
      | succ i =>
        cases i with
        | zero => simp at h
        | succ i =>
          simp at h
          obtain ⟨g1, g2⟩ := x_lay_get ad vs (i0 + 2) i v h
          exact ⟨List.mem_cons_of_mem _ (by rw [show i0 + (i + 1 + 1) = i0 + 2 + i by omega]; exact g1), List.mem_cons_of_mem _ g2⟩
    | false =>
      rw [hb] at h
      have hc : ¬ w.category = 2 := fun q => by rw [q] at hb; cases hb
      rw [if_neg hc]
      cases i with
      | zero =>
        simp at h
        subst h
        exact ⟨List.mem_cons_self, List.mem_cons_self⟩
      | succ i =>
        simp at h
        obtain ⟨g1, g2⟩ := x_lay_get ad vs (i0 + 1) i v h
        exact ⟨List.mem_cons_of_mem _ (by rw [show i0 + (i + 1) = i0 + 1 + i by omega]; exact g1), List.mem_cons_of_mem _ g2⟩
theorem x_lay_len (ad : Nat → Nat) : ∀ args : List Value, (lg_sl (args.map (x_tr ad))).length = (x_lay args).length
  | [] => rfl
  | w :: vs => by
    have ih := x_lay_len ad vs
    unfold x_lay
    rw [List.map_cons]
    unfold lg_sl at ih ⊢
    rw [List.flatMap_cons, x_tr_cat, List.length_append, ih]
    cases hb : Nat.beq w.category 2 with
    | true =>
      rw [if_pos (Nat.eq_of_beq_eq_true hb)]
      simp
      omega
    | false =>
      rw [if_neg (fun q => by rw [q] at hb; cases hb)]
      simp
      omega
theorem x_word {w : Cond} (h : w ∈ x_T) : (w ∈ lw_tbl) ∧ ((w.onTables && w.keeps) = true ∨ ∃ ty, w = .arrayClass ty) := ⟨(List.mem_filter.mp h).1, good_of_word (List.mem_filter.mp h).2⟩
theorem x_B_of {args : List Value} {ad : Nat → Nat} {nb : Nat} {p : Program} {e : Env} {s s₁ : State} {m : MethodId} {argsA : Array Value} {below : List Frame} {meth : Method} {c : Code} {rm : Room} (hG : x_Kn G) (hok : x_ok M) (B : BodyLoose p G.1 (x_y M) (headSpec (x_ws M) rm) (x_by M) (x_nL M) (x_ret M) e s m argsA below meth c s₁) (hml : c.maxLocals = x_nL M)
    (htb : c.exceptionTable.toList = tableOf (x_hh M)) (hP : x_Pc G ad nb args N argsA s) : x_B G M p s m argsA meth c := by
  have hts := atoms_spec (ws := x_ws M) B.pre
  refine ⟨B.exec, B.bytes, hml, B.returns, B.notSynchronized, ?_, fun w hw => hts w (List.mem_cons_of_mem _ hw), hP.2.2.1, hP.2.2.2.1, htb, (name_of_methodNamed B.named B.method).1, hG, hok.1⟩
  rw [hok.2.1]
  exact findClass_of_methodNamed B.named
theorem x_L_of {args : List Value} {ad : Nat → Nat} {nb : Nat} (hL : x_lay args ++ List.replicate (x_nL M - (x_lay args).length) none = L) (hlen : (x_lay args).length ≤ x_nL M) (hv : ∀ v ∈ args, x_vok nb v) :
    x_L ad nb (x_nL M) L ((lg_sl (args.map (x_tr ad)) ++ List.replicate (x_nL M - (lg_sl (args.map (x_tr ad))).length) Slot.unset).toArray) := by
  subst hL
  obtain ⟨h1, h2, h3⟩ := lv_entry (args.map (x_tr ad)) (n := x_nL M) (by rw [x_lay_len]; exact hlen)
  refine ⟨⟨h1, by simp; omega⟩, h2, fun i v hi => ?_⟩
  have hi' : (x_lay args)[i]? = some (some v) := by
    by_cases hlt : i < (x_lay args).length
    · rwa [List.getElem?_append_left hlt] at hi
    · rw [List.getElem?_append_right (by omega), List.getElem?_replicate] at hi
      split at hi
      · cases hi
      · cases hi
  obtain ⟨g1, g2⟩ := x_lay_get ad args 0 i v hi'
  rw [Nat.zero_add] at g1
  exact ⟨h3 _ g1, hv v g2⟩
/-- a method without handlers meets its contract if its body does -/
theorem X_M {args : List Value} (hG : x_Kn G) (hok : x_ok M) (hh : x_hh M = []) (hL : x_lay args ++ List.replicate (x_nL M - (x_lay args).length) none = L) (hlen : (x_lay args).length ≤ x_nL M)
    (body : ∀ (ad0 : Nat → Nat) (nb0 : Nat), x_W G M (x_Z G d mc ms ad0 nb0 Qn Qx) N 0 0 0 L []) : x_M G M d mc ms args N Qn Qx := by
  intro ad nb
  have hw : x_ws M = Cond.code (x_y M) (x_by M) (x_nL M) (x_ret M) :: x_T := by unfold x_ws; rw [hh]
  refine vx_ofW hok.2.2 hw ?_
  intro p e s m argsA below meth c s₁ B hml htb hP
  have hB := x_B_of hG hok B hml (by
    rw [hh]
    cases hc : c.exceptionTable.toList with
    | nil => rfl
    | cons a b => exact (htb a (by rw [hc]; exact List.mem_cons_self)).elim) hP
  obtain ⟨rfl, hv, hW, hk, hR⟩ := hP
  rw [lg_entry_eq]
  exact body ad nb p e s m _ below meth c ad nb s.heap [] _ hB hR (Nat.le_refl _) (fun _ _ => rfl) va_S.rf (x_L_of hL hlen hv) (fun v h => by cases h)
/-- .. with handlers -/
theorem X_MH {args : List Value} (hG : x_Kn G) (hok : x_ok M) {a : Nat × Nat × Nat × Nat} {l : List (Nat × Nat × Nat × Nat)} (hh : x_hh M = a :: l) (hL : x_lay args ++ List.replicate (x_nL M - (x_lay args).length) none = L) (hlen : (x_lay args).length ≤ x_nL M)
    (body : ∀ (ad0 : Nat → Nat) (nb0 : Nat), x_W G M (x_Z G d mc ms ad0 nb0 Qn Qx) N 0 0 0 L []) : x_M G M d mc ms args N Qn Qx := by
  intro ad nb
  have hw : x_ws M = Cond.codeWith (x_y M) (x_by M) (x_nL M) (x_ret M) (x_hh M) :: x_T := by unfold x_ws; rw [hh]
  refine vx_ofWH hok.2.2 hw ?_
  intro p e s m argsA below meth c s₁ B hml hP
  have hB := x_B_of hG hok B hml (vx_table (x := x_y M) B (atoms_spec (ws := x_ws M) B.pre _ (by rw [hw]; exact List.mem_cons_self))) hP
  obtain ⟨rfl, hv, hW, hk, hR⟩ := hP
  rw [lg_entry_eq]
  exact body ad nb p e s m _ below meth c ad nb s.heap [] _ hB hR (Nat.le_refl _) (fun _ _ => rfl) va_S.rf (x_L_of hL hlen hv) (fun v h => by cases h)
end XR3
