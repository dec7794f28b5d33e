/-! ===== an abstract machine over the kit's rows: cells have names, a method's body has one judgement (x_W), a method one contract (x_M) ===== -/
/-- launch, the law's start, class numbers, slots, array classes, the addresses of the fixed names -/
abbrev XE : Type := Launch × State × (Nat → ClassId) × (Nat → Nat → Nat) × (FieldType → ClassId) × (Nat → Nat)
def x_tr (ad : Nat → Nat) (v : Value) : Value := match v with
  | .ref k => .ref (ad k)
  | v => v
def x_vok (nb : Nat) (v : Value) : Prop := match v with
  | .ref k => k < nb
  | _ => True
def x_cok (nb : Nat) (c : XC) : Prop := match c with
  | .inl (ci, V) => ∀ r : vw_C, vwCl[ci]? = some r → ∀ j, j < r.2.2 → x_vok nb (V j)
  | .inr (_, _, n, f) => ∀ j, j < n → x_vok nb (f j)
def x_tys : List FieldType := [.int, .long, .byte, .boolean, .object "PreparedPlans$Data", .object "PreparedPlans$Usage", .object "java/lang/Object"]
def x_n0 (G : XE) : Nat := G.2.1.heap.size
def x_A (G : XE) : Nat → Prop := fun q => x_n0 G ≤ q
/-- an array of which only this is known: what it holds -/
def x_arT (G : XE) (ad : Nat → Nat) (a : Nat) (ty : FieldType) (n : Nat) (f : Nat → Value) (H : Heap) : Prop := ∃ cell : Cell, H[a]? = some cell ∧ G.2.1.isArrayOf cell ty ∧ cell.vm ≠ .unknown ∧ n ≤ cell.slots.size ∧ cell.slots.size.toInt32 = Int32.ofNat n ∧ ∀ j, j < n → cell.slots[j]? = some (x_tr ad (f j))
/-- an array: one that may be written is known whole -/
def x_arr (G : XE) (ad : Nat → Nat) (a : Nat) (mu : Bool) (ty : FieldType) (n : Nat) (f : Nat → Value) (H : Heap) : Prop := match mu with
  | true => H[a]? = some (arrV (G.2.2.2.2.1 ty) n (fun j => x_tr ad (f j)))
  | false => x_arT G ad a ty n f H
def x_cell (G : XE) (ad : Nat → Nat) (a : Nat) (c : XC) (H : Heap) : Prop := match c with
  | .inl (ci, V) => x_n0 G ≤ a ∧ ∃ r : vw_C, vwCl[ci]? = some r ∧ t_OB a (G.2.2.1 ci) r.2.2 (G.2.2.2.1 ci) H (fun k => x_tr ad (V k))
  | .inr (mu, ty, n, f) => (mu = true → x_n0 G ≤ a) ∧ ty ∈ x_tys ∧ x_arr G ad a mu ty n f H
/-- the named cells are there, at addresses that are apart; what they refer to is named below nb; the fixed names lie where they lie -/
def x_R (G : XE) (ad : Nat → Nat) (nb : Nat) (N : XH) (H : Heap) : Prop :=
  (∀ (k : Nat) (c : XC), k ≠ 0 → N k = some c → k < nb ∧ x_cok nb c ∧ x_cell G ad (ad k) c H) ∧ (∀ (i j : Nat) (ci cj : XC), i ≠ 0 → j ≠ 0 → N i = some ci → N j = some cj → ad i = ad j → i = j) ∧ (∀ k, k < 64 → ad k = G.2.2.2.2.2 k) ∧ 64 ≤ nb ∧ (∀ c, N 0 = some c → ∃ f, c = .inl (99, fun _ => .ref f) ∧ nb ≤ f)
def x_ext (nb : Nat) (ad ad' : Nat → Nat) : Prop := ∀ k, k < nb → ad' k = ad k
def x_set (N : XH) (o : Nat) (c : XC) : XH := fun k => if k = o then some c else N k
def x_L (ad : Nat → Nat) (nb nL : Nat) (L : List (Option Value)) (ls : Array Slot) : Prop :=
  (ls.size = nL ∧ L.length ≤ nL) ∧ lv_wf ls ∧ ∀ (i : Nat) (v : Value), L[i]? = some (some v) → ls[i]? = some (.val (x_tr ad v)) ∧ x_vok nb v
def x_kept (G : XE) (H : Heap) : Prop := x_n0 G ≤ H.size ∧ ∀ q, q < x_n0 G → H[q]? = G.2.1.heap[q]?
theorem x_dec {b : ByteArray} {K : XK} (ok : x_okK b K = true) {pc pc' t : Nat} {i : Instr} (h : x_at K pc = some (i, pc', t)) : decode b pc = .ok (i, pc' - pc) ∧ pc ≤ pc' ∧ (x_len i = 0 ∨ x_len i = pc' - pc) ∧ (∀ o, x_off i = some o → (pc : Int) + o = (t : Int)) := by
  have h1 := List.all_eq_true.mp ok _ (x_at_mem K pc _ h)
  simp only [x_okE, Bool.and_eq_true, decide_eq_true_eq, Bool.or_eq_true, beq_iff_eq] at h1
  obtain ⟨⟨⟨h2, h3⟩, h4⟩, h5⟩ := h1
  refine ⟨h2, h3, h4, fun o ho => ?_⟩
  rw [ho] at h5
  exact of_decide_eq_true h5
theorem x_decn {b : ByteArray} {K : XK} (ok : x_okK b K = true) {pc pc' t n : Nat} {i : Instr} (h : x_at K pc = some (i, pc', t)) (hn : x_len i = n + 1) : decode b pc = .ok (i, n + 1) ∧ pc' = pc + (n + 1) := by
  obtain ⟨h1, h2, h3, -⟩ := x_dec ok h
  rcases h3 with h3 | h3
  · omega
  · have e : pc' - pc = n + 1 := by omega
    rw [e] at h1
    exact ⟨h1, by omega⟩
/-- what is known of the law's start: the classes, the arrays' classes, the tables' words, the launch -/
def x_Kn (G : XE) : Prop :=
  (∀ (c : Nat) (q : vw_C), vwCl[c]? = some q → u_Kn G.2.1 q.1 q.2.1 q.2.2 (G.2.2.1 c) (G.2.2.2.1 c)) ∧ (∀ ty, ty ∈ x_tys → ArrOfT G.2.1 (G.2.2.2.2.1 ty) ty ∧ va_RA G.2.1 (G.2.2.2.2.1 ty) ty) ∧ ((∀ w ∈ lw_tbl, w.onTables = true → va_Nw w G.2.1) ∧ ∀ C, Cond.arrayOver (.object C) ∈ lw_tbl → va_AO C G.2.1) ∧ G.1.stackTraces = false ∧
  vx_Zq Bundle.tN "UNASSIGNED_STACK" Bundle.steD (x_A G) G.2.1 G.2.1.heap ∧ vx_Zq Bundle.tN "SUPPRESSED_SENTINEL" Bundle.listD (x_A G) G.2.1 G.2.1.heap
/-- what holds all through a method's body -/
def x_B (G : XE) (M : XMI) (p : Program) (s : State) (m : MethodId) (args : Array Value) (meth : Method) (c : Code) : Prop :=
  p.tables.exec = Jvm.exec ∧ c.code = x_by M ∧ c.maxLocals = x_nL M ∧ meth.sig.returnType = x_ret M ∧ meth.locks = false ∧ s.vm.findClass (x_own M) = some m.cls ∧ (∀ w ∈ x_T, w.before args s = true) ∧ G.2.1.WarmedH s.vm ∧ x_kept G s.heap ∧ c.exceptionTable.toList = tableOf (x_hh M) ∧ meth.name = (x_y M).name ∧ x_Kn G ∧ x_okK (x_by M) (x_k M) = true
/-- room, the addresses and the names' bound at the start, the end -/
abbrev XZ : Type := Room × (Nat → Nat) × Nat × (List Frame → Array Value → State → State → Prop)
/-- from this frame and these cells, the method comes to its end -/
def x_W (G : XE) (M : XMI) (Z : XZ) (N : XH) (cells slots pc : Nat) (L : List (Option Value)) (st : List Value) : Prop :=
  ∀ (p : Program) (e : Env) (s : State) (m : MethodId) (args : Array Value) (below : List Frame) (meth : Method) (c : Code) (ad : Nat → Nat) (nb : Nat) (H : Heap) (locs : List Loc) (ls : Array Slot),
    x_B G M p s m args meth c → x_R G ad nb N H → Z.2.2.1 ≤ nb → x_ext Z.2.2.1 Z.2.1 ad → va_S (x_A G) s.heap H locs → x_L ad nb (x_nL M) L ls → (∀ v ∈ st, x_vok nb v) →
    W p G.1 e Z.1 s m args below meth c H locs cells slots (Z.2.2.2 below args s) (F0 m pc ls (st.map (x_tr ad)))
def x_Qc (G : XE) (ad0 : Nat → Nat) (nb0 : Nat) (Qn : XH → Option Value → Prop) : Array Value → State → Outcome → State → Prop := fun _ st o t =>
  (∃ (ad : Nat → Nat) (nb : Nat) (N : XH) (r : Option Value), o = .returned (r.map (x_tr ad)) ∧ nb0 ≤ nb ∧ x_ext nb0 ad0 ad ∧ x_R G ad nb N t.heap ∧ (∀ v, r = some v → x_vok nb v) ∧ Qn N r) ∧ va_F (x_A G) st t
def x_XC (G : XE) (ad0 : Nat → Nat) (nb0 : Nat) (Qx : XH → String → Prop) : String → State → State → Prop := fun E st t =>
  (∃ (ad : Nat → Nat) (nb : Nat) (N : XH), nb0 ≤ nb ∧ x_ext nb0 ad0 ad ∧ x_R G ad nb N t.heap ∧ Qx N E) ∧ va_F (x_A G) st t
def x_rm (d mc ms : Nat) : Room := { frames := d, cells := mc, slots := ms, locals := 100 * d }
def x_Z (G : XE) (d mc ms : Nat) (ad0 : Nat → Nat) (nb0 : Nat) (Qn : XH → Option Value → Prop) (Qx : XH → String → Prop) : XZ :=
  (x_rm d mc ms, ad0, nb0, fun below args s => vx_MQ below (x_Qc G ad0 nb0 Qn) (x_XC G ad0 nb0 Qx) args s mc ms (x_A G))
def x_ws (M : XMI) : List Cond := (match x_hh M with | [] => Cond.code (x_y M) (x_by M) (x_nL M) (x_ret M) | hh => Cond.codeWith (x_y M) (x_by M) (x_nL M) (x_ret M) hh) :: x_T
def x_Pc (G : XE) (ad : Nat → Nat) (nb : Nat) (args : List Value) (N : XH) : Array Value → State → Prop := fun a U =>
  a = (args.map (x_tr ad)).toArray ∧ (∀ v ∈ args, x_vok nb v) ∧ G.2.1.WarmedH U.vm ∧ x_kept G U.heap ∧ x_R G ad nb N U.heap
/-- the contract of a call with these arguments over these cells: at most d frames deep, mc cells of ms slots -/
def x_M (G : XE) (M : XMI) (d mc ms : Nat) (args : List Value) (N : XH) (Qn : XH → Option Value → Prop) (Qx : XH → String → Prop) : Prop :=
  ∀ (ad : Nat → Nat) (nb : Nat), vx_Met G.1 (x_y M) (x_ws M) (x_rm d mc ms) (x_Pc G ad nb args N) (x_Qc G ad nb Qn) (x_XC G ad nb Qx) mc ms (x_A G)
/-! laws of names and cells -/
theorem x_tr_ext {nb : Nat} {ad ad' : Nat → Nat} (h : x_ext nb ad ad') {v : Value} (hv : x_vok nb v) : x_tr ad' v = x_tr ad v := by
  cases v with
  | ref k => exact congrArg Value.ref (h k hv)
  | _ => rfl
theorem x_vok_mono {nb nb' : Nat} (h : nb ≤ nb') {v : Value} (hv : x_vok nb v) : x_vok nb' v := by
  cases v with
  | ref k => exact Nat.lt_of_lt_of_le hv h
  | _ => trivial
theorem x_cok_mono {nb nb' : Nat} (h : nb ≤ nb') {c : XC} (hc : x_cok nb c) : x_cok nb' c := by
  rcases c with ⟨ci, V⟩ | ⟨mu, ty, n, f⟩
  · exact fun r hr j hj => x_vok_mono h (hc r hr j hj)
  · exact fun j hj => x_vok_mono h (hc j hj)
theorem x_map_ext {nb : Nat} {ad ad' : Nat → Nat} (h : x_ext nb ad ad') {st : List Value} (hv : ∀ v ∈ st, x_vok nb v) : st.map (x_tr ad') = st.map (x_tr ad) :=
  List.map_congr_left fun v hm => x_tr_ext h (hv v hm)
theorem x_L_ext {nb nb' nL : Nat} {ad ad' : Nat → Nat} (h : x_ext nb ad ad') (hn : nb ≤ nb') {L : List (Option Value)} {ls : Array Slot} (hl : x_L ad nb nL L ls) : x_L ad' nb' nL L ls :=
  ⟨hl.1, hl.2.1, fun i v hi => ⟨by rw [x_tr_ext h (hl.2.2 i v hi).2]; exact (hl.2.2 i v hi).1, x_vok_mono hn (hl.2.2 i v hi).2⟩⟩
theorem arrV_ext (cA : ClassId) (n : Nat) {f g : Nat → Value} (h : ∀ j, j < n → f j = g j) : arrV cA n f = arrV cA n g := by
  unfold arrV
  congr 1
  apply Array.ext_getElem?
  intro i
  by_cases hi : i < n
  · simp [hi, h i hi]
  · simp [hi]
theorem x_cell_ext {G : XE} {nb a : Nat} {ad ad' : Nat → Nat} (h : x_ext nb ad ad') {c : XC} {H : Heap} (hc : x_cok nb c) (hl : x_cell G ad a c H) : x_cell G ad' a c H := by
  rcases c with ⟨ci, V⟩ | ⟨mu, ty, n, f⟩
  · obtain ⟨h1, r, h2, h3⟩ := hl
    exact ⟨h1, r, h2, h3.to fun k hk => (x_tr_ext h (hc r h2 k hk)).symm⟩
  · obtain ⟨h1, h2, h3⟩ := hl
    refine ⟨h1, h2, ?_⟩
    cases mu with
    | true => exact Eq.trans h3 (congrArg some (arrV_ext _ n fun j hj => (x_tr_ext h (hc j hj)).symm))
    | false =>
      obtain ⟨cell, c1, c2, c3, c4, c5, c6⟩ := h3
      exact ⟨cell, c1, c2, c3, c4, c5, fun j hj => by rw [x_tr_ext h (hc j hj)]; exact c6 j hj⟩
theorem x_cell_kept {G : XE} {a : Nat} {ad : Nat → Nat} {c : XC} {H H' : Heap} (hl : x_cell G ad a c H) (hq : H'[a]? = H[a]?) : x_cell G ad a c H' := by
  rcases c with ⟨ci, V⟩ | ⟨mu, ty, n, f⟩
  · obtain ⟨h1, r, h2, h3⟩ := hl
    exact ⟨h1, r, h2, h3.kept hq⟩
  · obtain ⟨h1, h2, h3⟩ := hl
    refine ⟨h1, h2, ?_⟩
    cases mu with
    | true => exact hq.trans h3
    | false =>
      obtain ⟨cell, c1, c2⟩ := h3
      exact ⟨cell, hq.trans c1, c2⟩
theorem x_cell_lt {G : XE} {a : Nat} {ad : Nat → Nat} {c : XC} {H : Heap} (hl : x_cell G ad a c H) : a < H.size := by
  rcases c with ⟨ci, V⟩ | ⟨mu, ty, n, f⟩
  · obtain ⟨-, r, -, cell, h3, -⟩ := hl
    exact (Array.getElem?_eq_some_iff.mp h3).1
  · obtain ⟨-, -, h3⟩ := hl
    cases mu with
    | true => exact (Array.getElem?_eq_some_iff.mp h3).1
    | false =>
      obtain ⟨cell, c1, -⟩ := h3
      exact (Array.getElem?_eq_some_iff.mp c1).1
theorem x_R_obj {G : XE} {ad : Nat → Nat} {nb o ci : Nat} {N : XH} {H : Heap} {V : Nat → Value} {r : vw_C} (h : x_R G ad nb N H) (hN : N o = some (.inl (ci, V))) (hc : vwCl[ci]? = some r) : o ≠ 0 ∧ o < nb ∧ x_cok nb (.inl (ci, V)) ∧ x_cell G ad (ad o) (.inl (ci, V)) H := by
  by_cases e : o = 0
  · subst e
    obtain ⟨f, h1, -⟩ := h.2.2.2.2 _ hN
    cases h1
    cases hc
  · exact ⟨e, h.1 o _ e hN⟩
theorem x_R_arr {G : XE} {ad : Nat → Nat} {nb o : Nat} {N : XH} {H : Heap} {z : Bool × FieldType × Nat × (Nat → Value)} (h : x_R G ad nb N H) (hN : N o = some (.inr z)) : o ≠ 0 ∧ o < nb ∧ x_cok nb (.inr z) ∧ x_cell G ad (ad o) (.inr z) H := by
  by_cases e : o = 0
  · subst e
    obtain ⟨f, h1, -⟩ := h.2.2.2.2 _ hN
    cases h1
  · exact ⟨e, h.1 o _ e hN⟩
theorem x_set_ne {N : XH} {o k : Nat} {c : XC} (h : k ≠ o) : x_set N o c k = N k := by
  unfold x_set
  rw [if_neg h]
theorem x_set_eq {N : XH} {o : Nat} {c : XC} : x_set N o c o = some c := by
  unfold x_set
  rw [if_pos rfl]
theorem x_R_put {G : XE} {ad : Nat → Nat} {nb o : Nat} {N : XH} {H H' : Heap} {c c' : XC} (h : x_R G ad nb N H) (ho : o ≠ 0) (hN : N o = some c) (hc : x_cok nb c') (hl : x_cell G ad (ad o) c' H') (hq : ∀ q, q ≠ ad o → H'[q]? = H[q]?) : x_R G ad nb (x_set N o c') H' := by
  obtain ⟨h1, h2, h3, h4, h5⟩ := h
  have dom : ∀ k d, x_set N o c' k = some d → ∃ d', N k = some d' := fun k d hk => by
    by_cases e : k = o
    · exact ⟨c, by rw [e]; exact hN⟩
    · exact ⟨d, by rw [x_set_ne e] at hk; exact hk⟩
  refine ⟨fun k d k0 hk => ?_, fun i j ci cj i0 j0 hi hj he => ?_, h3, h4, fun d hd => h5 d (by rw [x_set_ne (Ne.symm ho)] at hd; exact hd)⟩
  · by_cases e : k = o
    · subst e
      rw [x_set_eq] at hk
      cases hk
      exact ⟨(h1 k c k0 hN).1, hc, hl⟩
    · rw [x_set_ne e] at hk
      obtain ⟨a1, a2, a3⟩ := h1 k d k0 hk
      exact ⟨a1, a2, x_cell_kept a3 (hq _ fun z => e (h2 k o d c k0 ho hk hN z))⟩
  · obtain ⟨di, hi'⟩ := dom i ci hi
    obtain ⟨dj, hj'⟩ := dom j cj hj
    exact h2 i j di dj i0 j0 hi' hj' he
/-- a new name for a new cell -/
def x_adn (ad : Nat → Nat) (nb a : Nat) : Nat → Nat := fun k => if k = nb then a else ad k
theorem x_adn_ext (ad : Nat → Nat) (nb a : Nat) : x_ext nb ad (x_adn ad nb a) := fun k hk => by
  unfold x_adn
  rw [if_neg (Nat.ne_of_lt hk)]
theorem x_R_new {G : XE} {ad : Nat → Nat} {nb a : Nat} {N : XH} {H H' : Heap} {c : XC} (h : x_R G ad nb N H) (h0 : N 0 = none) (ha : H.size = a) (hc : x_cok nb c) (hl : x_cell G ad a c H') (hq : ∀ q, q < a → H'[q]? = H[q]?) : x_R G (x_adn ad nb a) (nb + 1) (x_set N nb c) H' ∧ N nb = none := by
  obtain ⟨h1, h2, h3, h4, h5⟩ := h
  have hnb0 : nb ≠ 0 := by omega
  have hno : N nb = none := by
    cases e : N nb with
    | none => rfl
    | some d => exact absurd (h1 nb d hnb0 e).1 (Nat.lt_irrefl _)
  have at0 : x_adn ad nb a nb = a := by
    unfold x_adn
    rw [if_pos rfl]
  have at1 : ∀ k, k ≠ nb → x_adn ad nb a k = ad k := fun k hk => by
    unfold x_adn
    rw [if_neg hk]
  have lt : ∀ k d, k ≠ 0 → N k = some d → ad k < a := fun k d k0 hk => by
    rw [← ha]
    exact x_cell_lt (h1 k d k0 hk).2.2
  refine ⟨⟨fun k d k0 hk => ?_, fun i j ci cj i0 j0 hi hj he => ?_, fun k hk => ?_, Nat.le_succ_of_le h4, fun d hd => ?_⟩, hno⟩
  · by_cases e : k = nb
    · subst e
      rw [x_set_eq] at hk
      cases hk
      refine ⟨Nat.lt_succ_self _, x_cok_mono (Nat.le_succ _) hc, ?_⟩
      rw [at0]
      exact x_cell_ext (x_adn_ext ad k a) hc hl
    · rw [x_set_ne e] at hk
      obtain ⟨a1, a2, a3⟩ := h1 k d k0 hk
      refine ⟨Nat.lt_succ_of_lt a1, x_cok_mono (Nat.le_succ _) a2, ?_⟩
      rw [at1 k e]
      exact x_cell_ext (x_adn_ext ad nb a) a2 (x_cell_kept a3 (hq _ (lt k d k0 hk)))
  · by_cases ei : i = nb
    · by_cases ej : j = nb
      · rw [ei, ej]
      · exfalso
        rw [x_set_ne ej] at hj
        rw [ei, at0, at1 j ej] at he
        have := lt j cj j0 hj
        omega
    · rw [x_set_ne ei] at hi
      by_cases ej : j = nb
      · exfalso
        rw [ej, at0, at1 i ei] at he
        have := lt i ci i0 hi
        omega
      · rw [x_set_ne ej] at hj
        rw [at1 i ei, at1 j ej] at he
        exact h2 i j ci cj i0 j0 hi hj he
  · rw [at1 k (by omega)]
    exact h3 k hk
  · rw [x_set_ne (Ne.symm hnb0), h0] at hd
    cases hd
/-- fewer cells -/
theorem x_R_sub {G : XE} {ad : Nat → Nat} {nb : Nat} {N N' : XH} {H : Heap} (h : x_R G ad nb N H) (hs : ∀ k c, N' k = some c → N k = some c) : x_R G ad nb N' H :=
  ⟨fun k c k0 hk => h.1 k c k0 (hs k c hk), fun i j ci cj i0 j0 hi hj => h.2.1 i j ci cj i0 j0 (hs i ci hi) (hs j cj hj), h.2.2.1, h.2.2.2.1, fun c hc => h.2.2.2.2 c (hs 0 c hc)⟩
/-- the next name: at 0 -/
def x_gh (f : Nat) : XC := .inl (99, fun _ => .ref f)
def x_del (N : XH) : XH := fun k => if k = 0 then none else N k
theorem x_gh_inj {f g : Nat} (h : x_gh f = .inl (99, fun _ => .ref g)) : f = g := by
  have h1 : (fun _ : Nat => Value.ref f) = fun _ => Value.ref g := by
    unfold x_gh at h
    injection h with h
    injection h
  have := congrFun h1 0
  injection this
theorem x_R_raise {G : XE} {ad : Nat → Nat} {nb f : Nat} {N : XH} {H : Heap} (h : x_R G ad nb N H) (hg : N 0 = some (x_gh f)) : x_R G ad f (x_del N) H ∧ nb ≤ f := by
  obtain ⟨h1, h2, h3, h4, h5⟩ := h
  obtain ⟨g, e1, e2⟩ := h5 _ hg
  cases x_gh_inj e1
  have off : ∀ k c, k ≠ 0 → x_del N k = some c → N k = some c := fun k c k0 hk => by
    unfold x_del at hk
    rwa [if_neg k0] at hk
  refine ⟨⟨fun k c k0 hk => ?_, fun i j ci cj i0 j0 hi hj => h2 i j ci cj i0 j0 (off i ci i0 hi) (off j cj j0 hj), h3, by omega, fun c hc => ?_⟩, e2⟩
  · obtain ⟨a1, a2, a3⟩ := h1 k c k0 (off k c k0 hk)
    exact ⟨by omega, x_cok_mono e2 a2, a3⟩
  · unfold x_del at hc
    rw [if_pos rfl] at hc
    cases hc
theorem x_R_ghost {G : XE} {ad : Nat → Nat} {nb f : Nat} {N : XH} {H : Heap} (h : x_R G ad nb N H) (hf : nb ≤ f) : x_R G ad nb (x_set N 0 (x_gh f)) H := by
  obtain ⟨h1, h2, h3, h4, h5⟩ := h
  refine ⟨fun k c k0 hk => h1 k c k0 (by rwa [x_set_ne k0] at hk), fun i j ci cj i0 j0 hi hj => h2 i j ci cj i0 j0 (by rwa [x_set_ne i0] at hi) (by rwa [x_set_ne j0] at hj), h3, h4, fun c hc => ?_⟩
  rw [x_set_eq] at hc
  exact ⟨f, (Option.some.inj hc).symm, hf⟩
