/-! ===== what lies frozen since the law's start: statics, the grammar's words ===== -/
/-- the grammar's words: table column or and not number day flag index row prepare cost tries -/
def x_wd : List (List Int32) := [[116, 97, 98, 108, 101], [99, 111, 108, 117, 109, 110], [111, 114], [97, 110, 100], [110, 111, 116], [110, 117, 109, 98, 101, 114], [100, 97, 121], [102, 108, 97, 103], [105, 110, 100, 101, 120], [114, 111, 119], [112, 114, 101, 112, 97, 114, 101], [99, 111, 115, 116], [116, 114, 105, 101, 115]]
def x_w (i : Nat) : List Int32 := x_wd.getD (i % 13) []
/-- the law's own texts -/
def x_lw : List (List Int32) := [[116, 97, 98, 108, 101, 59, 99, 111, 108, 117, 109, 110, 32, 97, 32, 110, 117, 109, 98, 101, 114, 59, 99, 111, 108, 117, 109, 110, 32, 98, 32, 110, 117, 109, 98, 101, 114, 59, 105, 110, 100, 101, 120, 32, 97, 59], [114, 111, 119, 32], [112, 114, 101, 112, 97, 114, 101, 32, 113, 32, 40, 97], [63, 48, 41, 32, 97, 110, 100, 32, 110, 111, 116, 32, 98, 61], [59, 99, 111, 115, 116, 32], [59, 116, 114, 105, 101, 115, 32]]
/-- the text of the String at name 4 + i -/
def x_st (i : Nat) : List Int32 := if i < 13 then x_lw.getD i (x_lw.getD 0 []) else x_w i
theorem x_st_w {i : Nat} (h : 13 ≤ i) : x_st i = x_w i := if_neg (Nat.not_lt.mpr h)
abbrev x_ad (G : XE) : Nat → Nat := G.2.2.2.2.2
abbrev x_S (G : XE) : State := G.2.1
/-- the String at name 4 + i holds the text x_st i -/
def x_Str (G : XE) (i : Nat) : Prop :=
  va_O "java/lang/String" (x_ad G (4 + i)) (x_A G) (x_S G) (x_S G).heap ∧ va_OF "java/lang/String" "coder" "B" (.int 0) (x_ad G (4 + i)) (x_A G) (x_S G) (x_S G).heap ∧ va_OF "java/lang/String" "value" "[B" (.ref (x_ad G (30 + i))) (x_ad G (4 + i)) (x_A G) (x_S G) (x_S G).heap ∧
    va_T .byte (x_ad G (30 + i)) (x_st i).length (fun j => .int ((x_st i).getD j 0)) (x_A G) (x_S G) (x_S G).heap
def x_sref : List (String × Nat × String × Nat) := [("PreparedPlansLaw", 189, "table;column a number;column b number;index a;", 0), ("PreparedPlansLaw", 194, "row ", 1), ("PreparedPlansLaw", 205, "prepare q (a", 2), ("PreparedPlansLaw", 207, "?0) and not b=", 3), ("PreparedPlansLaw", 209, ";cost ", 4), ("PreparedPlansLaw", 211, ";tries ", 5), ("PreparedPlansLaw", 189, "table;column a number;column b number;index a;", 6), ("PreparedPlansLaw", 189, "table;column a number;column b number;index a;", 7), ("PreparedPlansLaw", 189, "table;column a number;column b number;index a;", 8), ("PreparedPlansLaw", 189, "table;column a number;column b number;index a;", 9), ("PreparedPlansLaw", 189, "table;column a number;column b number;index a;", 10), ("PreparedPlansLaw", 189, "table;column a number;column b number;index a;", 11), ("PreparedPlansLaw", 189, "table;column a number;column b number;index a;", 12), ("PreparedPlans$SetupReader", 45, "table", 13), ("PreparedPlans$SetupReader", 55, "column", 14), ("PreparedPlans$Tokens", 64, "or", 15), ("PreparedPlans$Tokens", 58, "and", 16), ("PreparedPlans$Tokens", 66, "not", 17), ("PreparedPlans$SetupReader", 127, "number", 18), ("PreparedPlans$SetupReader", 129, "day", 19), ("PreparedPlans$SetupReader", 131, "flag", 20), ("PreparedPlans$SetupReader", 64, "index", 21), ("PreparedPlans$SetupReader", 69, "row", 22), ("PreparedPlans$SetupReader", 74, "prepare", 23), ("PreparedPlans$SetupReader", 195, "cost", 24), ("PreparedPlans$SetupReader", 206, "tries", 25)]
/-- the frozen world: statics and words -/
def x_KS (G : XE) : Prop :=
  (va_Z "java/lang/String" "COMPACT_STRINGS" "Z" (.int 1) (x_A G) (x_S G) (x_S G).heap ∧ (va_Z "jdk/internal/util/Preconditions" "SIOOBE_FORMATTER" "Ljava/util/function/BiFunction;" .null (x_A G) (x_S G) (x_S G).heap ∨ va_Z "jdk/internal/util/Preconditions" "SIOOBE_FORMATTER" "Ljava/util/function/BiFunction;" (.ref (x_ad G 3)) (x_A G) (x_S G) (x_S G).heap) ∧ va_Z "java/util/ArrayList" "DEFAULTCAPACITY_EMPTY_ELEMENTDATA" "[Ljava/lang/Object;" (.ref (x_ad G 2)) (x_A G) (x_S G) (x_S G).heap ∧ va_Z "PreparedPlans" "NONE_SEEN" "[I" (.ref (x_ad G 1)) (x_A G) (x_S G) (x_S G).heap) ∧
  (∀ i, i < 26 → x_Str G i) ∧ ∀ q, q ∈ x_sref → vk_R q.1 q.2.1 q.2.2.1 (x_ad G (4 + q.2.2.2)) (x_S G)
theorem x_fzq {G : XE} {s : State} (hk : x_kept G s.heap) : ∀ a : Nat, a < (x_S G).heap.size → ¬ x_A G a → s.heap[a]? = (x_S G).heap[a]? := fun a _ hn => hk.2 a (Nat.not_le.mp hn)
section XFZ
variable {G : XE} {M : XMI} {Z : XZ} {N : XH} {cells slots pc pc' t : Nat} {L : List (Option Value)} {st : List Value}
/-- a static field whose value is known since the start -/
theorem X_gets {C n d : String} {idx : Nat} {v : Value} (hlink : Cond.fieldLink (x_own M) idx C n d ∈ x_T) (hZ : va_Z C n d (x_tr (x_ad G) v) (x_A G) (x_S G) (x_S G).heap) (hv : x_vok 64 v) (hd : x_at (x_k M) pc = some (.getstatic idx, pc', t)) (kk : x_W G M Z N cells slots pc' L (v :: st)) : x_W G M Z N cells slots pc L st := by
  intro p e s m args below meth c ad nb H locs ls B hR hn he hS hl hvs
  obtain ⟨hx, hb, hml, hr, hlk, hown, hts, hW, hkp, htb, hnm, hKn, hok⟩ := id B
  obtain ⟨d1, e1⟩ := x_decn hok hd (n := 2) rfl
  subst e1
  have ev : x_tr (x_ad G) v = x_tr ad v := by
    cases v with
    | ref k => exact congrArg Value.ref (hR.2.2.1 k hv).symm
    | _ => rfl
  rw [ev] at hZ
  exact va_gets hx hb ((va_Z.moved hW.alike hZ).kept (x_fzq hkp)) hS hown (hts _ hlink) (fun _ h => h) d1 (kk p e s m args below meth c ad nb H locs ls B hR hn he hS hl (List.forall_mem_cons.mpr ⟨x_vok_mono hR.2.2.2.1 hv, hvs⟩))
theorem X_getsN {C n d host : String} {idx : Nat} {v : Value} (hlink : Cond.fieldLinkNest (x_own M) idx C n d host ∈ lw_tbl) (hZ : va_Z C n d (x_tr (x_ad G) v) (x_A G) (x_S G) (x_S G).heap) (hv : x_vok 64 v) (hd : x_at (x_k M) pc = some (.getstatic idx, pc', t)) (kk : x_W G M Z N cells slots pc' L (v :: st)) : x_W G M Z N cells slots pc L st := by
  intro p e s m args below meth c ad nb H locs ls B hR hn he hS hl hvs
  obtain ⟨hx, hb, hml, hr, hlk, hown, hts, hW, hkp, htb, hnm, hKn, hok⟩ := id B
  obtain ⟨d1, e1⟩ := x_decn hok hd (n := 2) rfl
  subst e1
  have ev : x_tr (x_ad G) v = x_tr ad v := by
    cases v with
    | ref k => exact congrArg Value.ref (hR.2.2.1 k hv).symm
    | _ => rfl
  rw [ev] at hZ
  exact va_getsN hx hb ((va_Z.moved hW.alike hZ).kept (x_fzq hkp)) hS hown (x_nest hKn hW hlink) (fun _ h => h) d1 (kk p e s m args below meth c ad nb H locs ls B hR hn he hS hl (List.forall_mem_cons.mpr ⟨x_vok_mono hR.2.2.2.1 hv, hvs⟩))
/-- a static reference of which nothing is known: it is null or name 3 -/
theorem X_getsq {C n d : String} {idx : Nat} (hlink : Cond.fieldLink (x_own M) idx C n d ∈ x_T) (hZ : va_Z C n d .null (x_A G) (x_S G) (x_S G).heap ∨ va_Z C n d (.ref (x_ad G 3)) (x_A G) (x_S G) (x_S G).heap) (hd : x_at (x_k M) pc = some (.getstatic idx, pc', t)) (kk : ∀ v, v = .null ∨ v = .ref 3 → x_W G M Z N cells slots pc' L (v :: st)) : x_W G M Z N cells slots pc L st := by
  rcases hZ with h | h
  · exact X_gets (v := .null) hlink h trivial hd (kk _ (Or.inl rfl))
  · exact X_gets (v := .ref 3) hlink h (show 3 < 64 by decide) hd (kk _ (Or.inr rfl))
theorem X_ldcS {idx i : Nat} {tx : String} (hK : x_KS G) (hq : (x_own M, idx, tx, i) ∈ x_sref) (hi : i < 26) (hd : x_at (x_k M) pc = some (.ldc idx, pc', t)) (kk : x_W G M Z N cells slots pc' L (.ref (4 + i) :: st)) : x_W G M Z N cells slots pc L st := by
  intro p e s m args below meth c ad nb H locs ls B hR hn he hS hl hvs
  obtain ⟨hx, hb, hml, hr, hlk, hown, hts, hW, hkp, htb, hnm, hKn, hok⟩ := id B
  obtain ⟨d1, e1⟩ := x_decn hok hd (n := 1) rfl
  subst e1
  have h1 := vk_R.warm hW (hK.2.2 _ hq)
  have h64 := hR.2.2.2.1
  have ea : x_ad G (4 + i) = ad (4 + i) := (hR.2.2.1 _ (by omega)).symm
  rw [ea] at h1
  exact va_ldcS hx hb hown h1 d1 (kk p e s m args below meth c ad nb H locs ls B hR hn he hS hl (List.forall_mem_cons.mpr ⟨(show 4 + i < nb by omega), hvs⟩))
/-- a field of a frozen object -/
theorem X_getS {C n d : String} {idx o : Nat} {v : Value} (ho : o < 64) (hlink : Cond.fieldLink (x_own M) idx C n d ∈ x_T) (hF : va_OF C n d (x_tr (x_ad G) v) (x_ad G o) (x_A G) (x_S G) (x_S G).heap) (hv : x_vok 64 v) (hd : x_at (x_k M) pc = some (.getfield idx, pc', t)) (kk : x_W G M Z N cells slots pc' L (v :: st)) : x_W G M Z N cells slots pc L (.ref o :: st) := by
  intro p e s m args below meth c ad nb H locs ls B hR hn he hS hl hvs
  obtain ⟨hx, hb, hml, hr, hlk, hown, hts, hW, hkp, htb, hnm, hKn, hok⟩ := id B
  obtain ⟨d1, e1⟩ := x_decn hok hd (n := 2) rfl
  subst e1
  have ev : x_tr (x_ad G) v = x_tr ad v := by
    cases v with
    | ref k => exact congrArg Value.ref (hR.2.2.1 k hv).symm
    | _ => rfl
  have eo : x_ad G o = ad o := (hR.2.2.1 _ ho).symm
  rw [ev, eo] at hF
  exact vk_getf hx hb ((va_OF.moved hW.alike hF).kept (x_fzq hkp)) hS hown (hts _ hlink) (fun _ h => h) d1 (kk p e s m args below meth c ad nb H locs ls B hR hn he hS hl (List.forall_mem_cons.mpr ⟨x_vok_mono hR.2.2.2.1 hv, (List.forall_mem_cons.mp hvs).2⟩))
/-- a frozen array's length, its bytes -/
theorem X_alenS {ty : FieldType} {n a : Nat} {f : Nat → Value} (ha : a < 64) (hT : va_T ty (x_ad G a) n f (x_A G) (x_S G) (x_S G).heap) (hd : x_at (x_k M) pc = some (.arraylength, pc', t)) (kk : x_W G M Z N cells slots pc' L (.int (nI n) :: st)) : x_W G M Z N cells slots pc L (.ref a :: st) := by
  intro p e s m args below meth c ad nb H locs ls B hR hn he hS hl hvs
  obtain ⟨hx, hb, hml, hr, hlk, hown, hts, hW, hkp, htb, hnm, hKn, hok⟩ := id B
  obtain ⟨d1, e1⟩ := x_decn hok hd (n := 0) rfl
  subst e1
  have ea : x_ad G a = ad a := (hR.2.2.1 _ ha).symm
  rw [ea] at hT
  exact va_tlen hx hb ((va_T.moved hW.alike hT).kept (x_fzq hkp)) hS rfl d1 (kk p e s m args below meth c ad nb H locs ls B hR hn he hS hl (List.forall_mem_cons.mpr ⟨trivial, (List.forall_mem_cons.mp hvs).2⟩))
theorem X_baldS {n a : Nat} {f : Nat → Int32} {j : Int32} (k : Nat) (ha : a < 64) (hT : va_T .byte (x_ad G a) n (fun j => .int (f j)) (x_A G) (x_S G) (x_S G).heap) (hj : j = nI k) (hk : k < n) (hn' : n < 2 ^ 31) (hd : x_at (x_k M) pc = some (.baload, pc', t)) (kk : x_W G M Z N cells slots pc' L (.int (f k) :: st)) : x_W G M Z N cells slots pc L (.int j :: .ref a :: st) := by
  intro p e s m args below meth c ad nb H locs ls B hR hn he hS hl hvs
  obtain ⟨hx, hb, hml, hr, hlk, hown, hts, hW, hkp, htb, hnm, hKn, hok⟩ := id B
  obtain ⟨d1, e1⟩ := x_decn hok hd (n := 0) rfl
  subst e1
  have ea : x_ad G a = ad a := (hR.2.2.1 _ ha).symm
  rw [ea] at hT
  have ej : j.toNatClampNeg = k := by rw [hj]; exact nI_clamp (by omega)
  exact va_tb hx hb ((va_T.moved hW.alike hT).kept (x_fzq hkp)) hS (by rw [hj]; exact vp_in_nI hk hn') (v := .int (f k)) (by rw [ej]) d1 (kk p e s m args below meth c ad nb H locs ls B hR hn he hS hl (List.forall_mem_cons.mpr ⟨trivial, (List.forall_mem_cons.mp (List.forall_mem_cons.mp hvs).2).2⟩))
theorem X_acmp_eq {rx ry : Option Nat} {off : Int} (hd : x_at (x_k M) pc = some (.if_acmp .eq off, pc', t)) (hne : ∀ (ad : Nat → Nat) (nb : Nat) (H : Heap), x_R G ad nb N H → rx.map ad = ry.map ad → rx = ry) (kt : rx = ry → x_W G M Z N cells slots t L st) (kf : ¬ rx = ry → x_W G M Z N cells slots pc' L st) : x_W G M Z N cells slots pc L (va_rf ry :: va_rf rx :: st) := by
  intro p e s m args below meth c ad nb H locs ls B hR hn he hS hl hvs
  have hok := B.2.2.2.2.2.2.2.2.2.2.2.2
  obtain ⟨d1, e1⟩ := x_decn hok hd (n := 2) rfl
  subst e1
  have hv := (List.forall_mem_cons.mp (List.forall_mem_cons.mp hvs).2).2
  have er : ∀ r : Option Nat, x_tr ad (va_rf r) = va_rf (r.map ad) := fun r => by cases r <;> rfl
  show W _ _ _ _ _ _ _ _ _ _ _ _ _ _ _ (F0 m pc ls (x_tr ad (va_rf ry) :: x_tr ad (va_rf rx) :: st.map (x_tr ad)))
  rw [er, er]
  exact lv_acmp_eq B.1 B.2.1 d1 ((x_dec hok hd).2.2.2 _ rfl) (fun h => kt (hne ad nb H hR h) p e s m args below meth c ad nb H locs ls B hR hn he hS hl hv) (fun h => kf (fun q => h (by rw [q])) p e s m args below meth c ad nb H locs ls B hR hn he hS hl hv)
theorem X_dup_x1 {v w : Value} (hd : x_at (x_k M) pc = some (.dup_x1, pc', t)) (hc : v.category = 1) (hc2 : w.category = 1) (kk : x_W G M Z N cells slots pc' L (v :: w :: v :: st)) : x_W G M Z N cells slots pc L (v :: w :: st) := by
  intro p e s m args below meth c ad nb H locs ls B hR hn he hS hl hvs
  have hok := B.2.2.2.2.2.2.2.2.2.2.2.2
  obtain ⟨d1, e1⟩ := x_decn hok hd (n := 0) rfl
  subst e1
  have h1 := List.forall_mem_cons.mp hvs
  have h2 := List.forall_mem_cons.mp h1.2
  have hct : ∀ v : Value, (x_tr ad v).category = v.category := fun v => by cases v <;> rfl
  exact lv_dup_x1 B.1 B.2.1 d1 ((hct _).trans hc) ((hct _).trans hc2) (kk p e s m args below meth c ad nb H locs ls B hR hn he hS hl (List.forall_mem_cons.mpr ⟨h1.1, List.forall_mem_cons.mpr ⟨h2.1, List.forall_mem_cons.mpr ⟨h1.1, h2.2⟩⟩⟩))
end XFZ
/-- a call whose receiver is a frozen object -/
theorem X_callF {G : XE} {M Mc : XMI} {Z : XZ} {N N1 : XH} {cells slots pc pc' t : Nat} {L : List (Option Value)} {idx n d mc ms o : Nat} {st As rest : List Value} {v : Value} (ho : o < 64) (hO : va_O (x_y Mc).cls (x_ad G o) (x_A G) (x_S G) (x_S G).heap) (hk : x_LV (x_own M) idx n Mc) (hM : x_M G Mc d mc ms (.ref o :: As) N (x_Ret N1 v) x_noX)
    (hd : x_at (x_k M) pc = some (.invokevirtual idx, pc', t)) (hst : st = As.reverse ++ .ref o :: rest) (hn : As.length = n) (hrest : (rest.map fun v => v.category).sum ≤ 8) (hfit : x_fit Z cells slots Mc d mc ms)
    (kk : x_W G M Z N1 (cells + mc) (slots + ms) pc' L (v :: rest)) : x_W G M Z N cells slots pc L st := by
  intro p e s m args below meth c ad nb H locs ls B hR hnb he hS hl hvs
  obtain ⟨hx, hb, hml, hr, hlk, hown, hts, hW, hkp, htb, hnm, hKn, hok⟩ := id B
  obtain ⟨d1, e1⟩ := x_decn hok hd (n := 2) rfl
  subst e1
  obtain ⟨hw, hh, hk1, hk2, hk3⟩ := hk
  obtain ⟨hw1, hw2, hw3, hw4⟩ := id hw
  rw [hh] at hw1
  have hvA : ∀ v ∈ Value.ref o :: As, x_vok nb v := fun v hv => hvs v (by
    rw [hst]
    rcases List.mem_cons.mp hv with h | h
    · exact List.mem_append_right _ (by rw [h]; exact List.mem_cons_self)
    · exact List.mem_append_left _ (List.mem_reverse.mpr h))
  have hvR : ∀ v ∈ rest, x_vok nb v := fun v hv => hvs v (by rw [hst]; exact List.mem_append_right _ (List.mem_cons_of_mem _ hv))
  have ea : x_ad G o = ad o := (hR.2.2.1 _ ho).symm
  rw [ea] at hO
  obtain ⟨cell, q1, q2, q3, q4⟩ := ((va_O.moved hW.alike hO).kept (x_fzq hkp)).kept hS.2.1
  have hrun := vx_runV (rest := rest.map (x_tr ad)) (As := As.map (x_tr ad)) (b := ad o) (C := (x_y Mc).cls) (nL := x_nL M) (g := F0 m pc ls (st.map (x_tr ad))) (cells := cells) (slots := slots) (e := e) (below := below) (meth := meth) (locs := locs) ⟨hx, hb, hml, hown, hts⟩ (hM ad nb)
    ⟨⟨rfl, rfl, hfit.1, hfit.2.1, x_pay hts hw, by unfold x_ws; rw [hh]; exact List.mem_cons_self, hts _ hw1, hts _ hw2, hw3, x_len_of hw4, hts _ hk1⟩, hts _ hk2, hts _ hk3⟩
    ⟨x_blind, ⟨cell, q1, q2, q3⟩, fun U hU hWU => ⟨rfl, hvA, hW.trans hWU, by rw [hU]; exact ⟨x_n0_le hkp hS, fun q hq => (hS.2.1 q (Nat.lt_of_lt_of_le hq hkp.1) (Nat.not_le.mpr hq)).trans (hkp.2 q hq)⟩, by rw [hU]; exact hR⟩⟩
    rfl (by rw [List.length_map]; exact hn) hl.1.1 (x_map_split hst) (lv_room (by rw [x_cat_sum]; exact hrest)) d1 ⟨hfit.2.2.1, hfit.2.2.2⟩
  exact x_back (Qn := x_Ret N1 v) (Qx := x_noX) hrun B hnb he hS hl hvR (fun _ _ h => h.elim) (fun N' r h => by obtain ⟨rfl, rfl⟩ := h; exact kk)
theorem X_scallv {G : XE} {M Mc : XMI} {d mc ms nb0 : Nat} {ad0 : Nat → Nat} {Qn : XH → Option Value → Prop} {Qx : XH → String → Prop} {N N1 : XH} {cells slots pc pc' t : Nat} {L : List (Option Value)} {idx n d' mc' ms' : Nat} {st As rest : List Value} (hk : x_LS (x_own M) idx n Mc) (hM : x_M G Mc d' mc' ms' As N (x_RetV N1) x_noX)
    (hd : x_at (x_k M) pc = some (.invokestatic idx, pc', t)) (hst : st = As.reverse ++ rest) (hn : As.length = n) (hrest : (rest.map fun v => v.category).sum ≤ 8) (hL : x_nL Mc ≤ 81) (hdd : d' + 1 ≤ d) (h1 : cells + mc' ≤ mc) (h2 : slots + ms' ≤ ms)
    (kk : x_W G M (x_Z G d mc ms ad0 nb0 Qn Qx) N1 (cells + mc') (slots + ms') pc' L rest) : x_W G M (x_Z G d mc ms ad0 nb0 Qn Qx) N cells slots pc L st :=
  X_callS hk hM hd hst hn hrest (x_fit_of hL hdd h1 h2) (fun _ _ h => h.elim) (fun N' r h => by obtain ⟨rfl, rfl⟩ := h; exact kk)
