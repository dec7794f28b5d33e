/-! ===== the law's start: what holds there (wip/whole/gen_d13.py) ===== -/
theorem q_tr {l : Launch} (h : l.flags = flags0) : l.stackTraces = false := by
  show (!l.flags.contains noTraceFlag) = false
  rw [h]
  decide +kernel
/-- a String's words -/
def q_sw (own : String) (k : Nat) (bs : List Int32) : List Cond := Cond.exactly (.string own k) "java/lang/String" :: Cond.eq (.field (.string own k) "java/lang/String" "coder" "B") (.int 0) :: Cond.arrayOf (.field (.string own k) "java/lang/String" "value" "[B") .byte :: Cond.eq (.length (.field (.string own k) "java/lang/String" "value" "[B")) (.int (Int32.ofNat bs.length)) :: (List.range bs.length).map (fun j => Cond.eq (.elem (.field (.string own k) "java/lang/String" "value" "[B") (.int (Int32.ofNat j))) (.int (bs.getD j 0)))
theorem q_str {args : Array Value} {s : State} {own : String} {k : Nat} {bs : List Int32} {A : Nat → Prop} (hN : bs.length < 2 ^ 31) (hw : ∀ w ∈ q_sw own k bs, w.before args s = true) (hA : ∀ a : Nat, a < s.heap.size → ¬ A a) : ∃ q : Nat × Nat, (Term.string own k).eval args s none [] s = some (.ref q.1) ∧ va_O "java/lang/String" q.1 A s s.heap ∧ va_OF "java/lang/String" "coder" "B" (.int 0) q.1 A s s.heap ∧ va_OF "java/lang/String" "value" "[B" (.ref q.2) q.1 A s s.heap ∧ va_T .byte q.2 bs.length (fun j => .int (bs.getD j 0)) A s s.heap := by
  unfold q_sw at hw
  have h0 := hw _ List.mem_cons_self
  have h1 := hw _ (List.mem_cons_of_mem _ List.mem_cons_self)
  have h2 := hw _ (List.mem_cons_of_mem _ (List.mem_cons_of_mem _ List.mem_cons_self))
  have h3 := hw _ (List.mem_cons_of_mem _ (List.mem_cons_of_mem _ (List.mem_cons_of_mem _ List.mem_cons_self)))
  have h4 : ∀ j, j < bs.length → (Cond.eq (.elem (.field (.string own k) "java/lang/String" "value" "[B") (.int (Int32.ofNat j))) (.int (bs.getD j 0))).before args s = true := fun j hj => hw _ (List.mem_cons_of_mem _ (List.mem_cons_of_mem _ (List.mem_cons_of_mem _ (List.mem_cons_of_mem _ (List.mem_map.mpr ⟨j, List.mem_range.mpr hj, rfl⟩)))))
  obtain ⟨a, c, cA, kA, q1, q2, q3, q4, q5, q6, -⟩ := Cond.exactly_spec (args := args) (first := s) (o := none) (s := s) (idx := []) (t := .string own k) (cls := "java/lang/String") h0
  obtain ⟨t, ht, hT⟩ := va_Tof (f := fun j => .int (bs.getD j 0)) (A := A) hN h2 (va_eqt h3) (fun j hj => va_eqt (h4 j hj)) hA
  exact ⟨(a, t), q1, ⟨cA, q3, q5, by rw [q6]; exact q2, hA a (Array.getElem?_eq_some_iff.mp q3).1⟩, vk_OFof q1 (va_eqt h1) hA, vk_OFof q1 ht hA, hT⟩
/-- what the Statement gives of the start -/
def q_fl : List Cond := flatC (Jvm.Cond.and given_1 narrow_1)
theorem q_ins {big : List Cond} (ws : List Cond) (is : List Nat) (h : is.map (fun i => big[i]?) = ws.map some) : ∀ w ∈ ws, w ∈ big := by
  intro w hw
  obtain ⟨k, hk⟩ := List.getElem?_of_mem hw
  have h1 : (is.map (fun i => big[i]?))[k]? = some (some w) := by rw [h, List.getElem?_map, hk]; rfl
  rw [List.getElem?_map] at h1
  cases hi : is[k]? with
  | none => rw [hi] at h1; cases h1
  | some i =>
    rw [hi] at h1
    exact List.mem_of_getElem? (Option.some.inj h1)
def q_es : List Nat := [629, 679, 687, 703, 721, 731, 629, 629, 629, 629, 629, 629, 629, 383, 392, 370, 363, 376, 402, 412, 419, 427, 436, 443, 454, 462]
def q_chk (i : Nat) : Bool := match x_sref[i]?, q_es[i]? with
  | some z, some e => decide ((q_fl.drop e).take (4 + (x_st i).length) = q_sw z.1 z.2.1 (x_st i)) && decide ((x_st i).length < 2 ^ 31)
  | _, _ => false
theorem q_chks : ∀ i, i < 26 → q_chk i = true := by decide +kernel
theorem q_swi {i : Nat} {z : String × Nat × String × Nat} (hi : i < 26) (hz : x_sref[i]? = some z) : (x_st i).length < 2 ^ 31 ∧ ∀ w ∈ q_sw z.1 z.2.1 (x_st i), w ∈ q_fl := by
  have h := q_chks i hi
  unfold q_chk at h
  rw [hz] at h
  cases he : q_es[i]? with
  | none => rw [he] at h; cases h
  | some e =>
    rw [he] at h
    have h2 := Bool.and_eq_true_iff.mp h
    refine ⟨of_decide_eq_true h2.2, fun w hw => ?_⟩
    rw [← of_decide_eq_true h2.1] at hw
    exact List.mem_of_mem_drop (List.mem_of_mem_take hw)
theorem q_refS : ∀ w ∈ x_sref.map (fun q => Cond.stringRef q.1 q.2.1 q.2.2.1), w ∈ lw_tbl := q_ins _ [1459, 1460, 1461, 1462, 1463, 1464, 1459, 1459, 1459, 1459, 1459, 1459, 1459, 692, 709, 627, 621, 628, 726, 727, 728, 733, 742, 765, 946, 951] (by decide +kernel)
theorem q_refM : ∀ w ∈ x_msg.map (fun q => Cond.stringRef q.1 q.2.1 q.2.2), w ∈ lw_tbl := q_ins _ [993, 600, 1002, 1073, 401, 436, 1100, 1028, 1038] (by decide +kernel)
theorem q_exM : ∀ w ∈ x_msg.map (fun q => Cond.exactly (.string q.1 q.2.1) "java/lang/String"), w ∈ q_fl := q_ins _ [471, 323, 495, 580, 263, 293, 604, 522, 549] (by decide +kernel)
theorem q_num : ∀ i, i < 26 → ∀ z, x_sref[i]? = some z → z.2.2.2 = i := by
  intro i hi z hz
  have h : ∀ j, j < 26 → (x_sref[j]?).map (fun z => z.2.2.2) = some j := by decide +kernel
  have h1 := h i hi
  rw [hz] at h1
  exact Option.some.inj h1
section ENV
variable {args : Array Value} {s : State}
theorem q_cls (hx : ∀ w ∈ x_T, w.before args s = true) : ∀ c : Nat, ∃ d : ClassId × (Nat → Nat), ∀ q : vw_C, vwCl[c]? = some q → u_Kn s q.1 q.2.1 q.2.2 d.1 d.2
  | 0 => by
    obtain ⟨a, i, h⟩ := u_known hx cl_0.2.1 (hx _ n_X1_7.2.2.1)
    exact ⟨(a, i), fun q hq => by cases hq; exact h⟩
  | 1 => by
    obtain ⟨a, i, h⟩ := u_known hx cl_1.2.1 (hx _ n_X6_228.2.2.1)
    exact ⟨(a, i), fun q hq => by cases hq; exact h⟩
  | 2 => by
    obtain ⟨a, i, h⟩ := u_known hx cl_2.2.1 (hx _ n_X6_210.2.2.1)
    exact ⟨(a, i), fun q hq => by cases hq; exact h⟩
  | 3 => by
    obtain ⟨a, i, h⟩ := u_known hx cl_3.2.1 (hx _ n_X10_24.2.2.1)
    exact ⟨(a, i), fun q hq => by cases hq; exact h⟩
  | 4 => by
    obtain ⟨a, i, h⟩ := u_known hx cl_4.2.1 (hx _ n_X6_169.2.2.1)
    exact ⟨(a, i), fun q hq => by cases hq; exact h⟩
  | 5 => by
    obtain ⟨a, i, h⟩ := u_known hx cl_5.2.1 (hx _ n_X10_30.2.2.1)
    exact ⟨(a, i), fun q hq => by cases hq; exact h⟩
  | 6 => by
    obtain ⟨a, i, h⟩ := u_known hx cl_6.2.1 (hx _ n_X10_50.2.2.1)
    exact ⟨(a, i), fun q hq => by cases hq; exact h⟩
  | 7 => by
    obtain ⟨a, i, h⟩ := u_known hx cl_7.2.1 (hx _ n_X3_19.2.2.1)
    exact ⟨(a, i), fun q hq => by cases hq; exact h⟩
  | 8 => by
    obtain ⟨a, i, h⟩ := u_known hx cl_8.2.1 (hx _ n_X10_17.2.2.1)
    exact ⟨(a, i), fun q hq => by cases hq; exact h⟩
  | 9 => by
    obtain ⟨a, i, h⟩ := u_known hx cl_9.2.1 (hx _ n_X3_26.2.2.1)
    exact ⟨(a, i), fun q hq => by cases hq; exact h⟩
  | 10 => by
    obtain ⟨a, i, h⟩ := u_known hx cl_10.2.1 (hx _ n_L_35.2.2.1)
    exact ⟨(a, i), fun q hq => by cases hq; exact h⟩
  | 11 => by
    obtain ⟨a, i, h⟩ := u_known hx cl_11.2.1 (hx _ n_L_8.2.2.1)
    exact ⟨(a, i), fun q hq => by cases hq; exact h⟩
  | 12 => by
    obtain ⟨a, i, h⟩ := u_known hx cl_12.2.1 (hx _ n_L_187.2.2.1)
    exact ⟨(a, i), fun q hq => by cases hq; exact h⟩
  | 13 => by
    obtain ⟨a, i, h⟩ := u_known hx cl_13.2.1 (hx _ n_J4_18.2.2.1)
    exact ⟨(a, i), fun q hq => by cases hq; exact h⟩
  | c + 14 => by
    obtain ⟨a, i, h⟩ := u_known hx cl_0.2.1 (hx _ n_X1_7.2.2.1)
    exact ⟨(a, i), fun q hq => absurd (List.getElem?_eq_some_iff.mp hq).1 (by show ¬ (c + 14 < 14); omega)⟩
theorem q_arrP {ty : FieldType} (h : (Cond.arrayClass ty).before args s = true) : ∃ cA : ClassId, ArrOfT s cA ty ∧ s.vm.findClass ("[" ++ ty.toString) = some cA := by
  obtain ⟨c, k, comp, h1, h2, h3⟩ := Cond.arrayClass_spec h
  exact ⟨c, fun n z => ⟨(fun k h => by cases h), k, h2, comp, h3⟩, h1⟩
theorem q_arrO {C : String} (h : (Cond.arrayOver (.object C)).before args s = true) : ∃ cA : ClassId, ArrOfT s cA (.object C) ∧ va_RA s cA (.object C) := by
  obtain ⟨comp, c, k, h1, h2, h3, h4, h5⟩ := Cond.arrayOver_spec h
  exact ⟨c, fun n z => ⟨(fun k h => by cases h), k, h3, comp, h4⟩, k, comp, h3, h4, h1, h5⟩
theorem q_arr (hx : ∀ w ∈ lw_tbl, w.before args s = true) : ∀ ty : FieldType, ∃ cA : ClassId, ty ∈ x_tys → ArrOfT s cA ty ∧ va_RA s cA ty := by
  intro ty
  by_cases hm : ty ∈ x_tys
  · have h7 : ty = .int ∨ ty = .long ∨ ty = .byte ∨ ty = .boolean ∨ ty = .object "PreparedPlans$Data" ∨ ty = .object "PreparedPlans$Usage" ∨ ty = .object "java/lang/Object" := by
      simpa [x_tys] using hm
    rcases h7 with rfl | rfl | rfl | rfl | rfl | rfl | rfl
    · obtain ⟨c, h1, h2⟩ := q_arrP (ty := .int) (hx _ (List.mem_of_getElem? (i := 131) (by decide +kernel)))
      exact ⟨c, fun _ => ⟨h1, h2⟩⟩
    · obtain ⟨c, h1, h2⟩ := q_arrP (ty := .long) (hx _ (List.mem_of_getElem? (i := 132) (by decide +kernel)))
      exact ⟨c, fun _ => ⟨h1, h2⟩⟩
    · obtain ⟨c, h1, h2⟩ := q_arrP (ty := .byte) (hx _ (List.mem_of_getElem? (i := 130) (by decide +kernel)))
      exact ⟨c, fun _ => ⟨h1, h2⟩⟩
    · obtain ⟨c, h1, h2⟩ := q_arrP (ty := .boolean) (hx _ (List.mem_of_getElem? (i := 242) (by decide +kernel)))
      exact ⟨c, fun _ => ⟨h1, h2⟩⟩
    · obtain ⟨c, h1, h2⟩ := q_arrO (C := "PreparedPlans$Data") (hx _ (List.mem_of_getElem? (i := 134) (by decide +kernel)))
      exact ⟨c, fun _ => ⟨h1, h2⟩⟩
    · obtain ⟨c, h1, h2⟩ := q_arrO (C := "PreparedPlans$Usage") (hx _ (List.mem_of_getElem? (i := 244) (by decide +kernel)))
      exact ⟨c, fun _ => ⟨h1, h2⟩⟩
    · obtain ⟨c, h1, h2⟩ := q_arrO (C := "java/lang/Object") (hx _ (List.mem_of_getElem? (i := 857) (by decide +kernel)))
      exact ⟨c, fun _ => ⟨h1, h2⟩⟩
  · obtain ⟨c, -, -⟩ := q_arrP (ty := .int) (hx _ (List.mem_of_getElem? (i := 131) (by decide +kernel)))
    exact ⟨c, fun h => absurd h hm⟩
end ENV
theorem q_dig1_k : (q_fl.drop 25).take 100 = (List.range 100).map (fun j => Cond.eq (.elem (.static "java/lang/Integer" "DigitOnes" "[B") (.int (Int32.ofNat j))) (.int (dg_O j))) := by decide +kernel
theorem q_dig1 (j : Nat) (hj : j < 100) : Cond.eq (.elem (.static "java/lang/Integer" "DigitOnes" "[B") (.int (Int32.ofNat j))) (.int (dg_O j)) ∈ q_fl := by
  have h : Cond.eq (.elem (.static "java/lang/Integer" "DigitOnes" "[B") (.int (Int32.ofNat j))) (.int (dg_O j)) ∈ (q_fl.drop 25).take 100 := by
    rw [q_dig1_k]
    exact List.mem_map.mpr ⟨j, List.mem_range.mpr hj, rfl⟩
  exact List.mem_of_mem_drop (List.mem_of_mem_take h)
theorem q_dig2_k : (q_fl.drop 128).take 100 = (List.range 100).map (fun j => Cond.eq (.elem (.static "java/lang/Integer" "DigitTens" "[B") (.int (Int32.ofNat j))) (.int (dg_T j))) := by decide +kernel
theorem q_dig2 (j : Nat) (hj : j < 100) : Cond.eq (.elem (.static "java/lang/Integer" "DigitTens" "[B") (.int (Int32.ofNat j))) (.int (dg_T j)) ∈ q_fl := by
  have h : Cond.eq (.elem (.static "java/lang/Integer" "DigitTens" "[B") (.int (Int32.ofNat j))) (.int (dg_T j)) ∈ (q_fl.drop 128).take 100 := by
    rw [q_dig2_k]
    exact List.mem_map.mpr ⟨j, List.mem_range.mpr hj, rfl⟩
  exact List.mem_of_mem_drop (List.mem_of_mem_take h)
/-- the fixed names' addresses -/
def q_ad (t1 t2 t3 b mi u1 u2 : Nat) (sq : Nat → Nat × Nat) : Nat → Nat := fun k => if k = 1 then t1 else if k = 2 then t2 else if k = 3 then t3 else if k = 56 then b else if k = 62 then mi else if k = 57 then u1 else if k = 58 then u2 else if k < 30 then (sq (k - 4)).1 else (sq (k - 30)).2
theorem q_M0c {n k : Nat} {xs : Nat → Int32} {c : XC} (k0 : k ≠ 0) (h : k_at (q_M0 n xs) 275 [] k = some c) : (k = 1 ∧ c = .inr (false, .int, 4, fun _ => .int (-1))) ∨ (k = 56 ∧ c = .inr (false, .int, n, fun j => .int (xs j))) := by
  unfold k_at at h
  rw [if_neg k0] at h
  by_cases h1 : k < 275
  · rw [if_pos h1] at h
    unfold q_M0 at h
    by_cases e1 : k = 1
    · rw [if_pos e1] at h
      exact Or.inl ⟨e1, (Option.some.inj h).symm⟩
    · rw [if_neg e1] at h
      by_cases e2 : k = 56
      · rw [if_pos e2] at h
        exact Or.inr ⟨e2, (Option.some.inj h).symm⟩
      · rw [if_neg e2] at h
        cases h
  · rw [if_neg h1, List.getElem?_nil] at h
    cases h
theorem q_env {l : Launch} (hfl : l.flags = flags0) {s : State} {b n : Nat} {xs : Nat → Int32} (hts : ∀ w ∈ lw_tbl, w.before #[Value.ref b] s = true) (hs : ∀ w ∈ q_fl, w.before #[Value.ref b] s = true) (hX : va_X b n xs s s.heap) (hbl : b < s.heap.size) : ∃ (dC : Nat → ClassId) (dI : Nat → Nat → Nat) (ra : FieldType → ClassId) (ad : Nat → Nat), x_Kn (l, s, dC, dI, ra, ad) ∧ x_KX (l, s, dC, dI, ra, ad) ∧ x_KD (l, s, dC, dI, ra, ad) ∧ x_KS (l, s, dC, dI, ra, ad) ∧ x_KM (l, s, dC, dI, ra, ad) ∧ ad 56 = b ∧ x_R (l, s, dC, dI, ra, ad) ad 64 (k_at (q_M0 n xs) 275 []) s.heap := by
  have hA : ∀ a : Nat, a < s.heap.size → ¬ (fun q => s.heap.size ≤ q) a := fun a h => Nat.not_le.mpr h
  have hx : ∀ w ∈ x_T, w.before #[Value.ref b] s = true := fun w hw => hts w (List.mem_filter.mp hw).1
  obtain ⟨D, hD⟩ := Classical.axiomOfChoice (q_cls hx)
  obtain ⟨ra, hra⟩ := Classical.axiomOfChoice (q_arr hts)
  have hst : ∀ i : Nat, ∃ q : Nat × Nat, ∀ z, i < 26 → x_sref[i]? = some z → (Term.string z.1 z.2.1).eval #[Value.ref b] s none [] s = some (.ref q.1) ∧ va_O "java/lang/String" q.1 (fun q => s.heap.size ≤ q) s s.heap ∧ va_OF "java/lang/String" "coder" "B" (.int 0) q.1 (fun q => s.heap.size ≤ q) s s.heap ∧ va_OF "java/lang/String" "value" "[B" (.ref q.2) q.1 (fun q => s.heap.size ≤ q) s s.heap ∧ va_T .byte q.2 (x_st i).length (fun j => .int ((x_st i).getD j 0)) (fun q => s.heap.size ≤ q) s s.heap := by
    intro i
    by_cases hi : i < 26
    · cases hz : x_sref[i]? with
      | none => exact ⟨(0, 0), fun z _ h => by cases h⟩
      | some z =>
        have h2 := q_swi hi hz
        obtain ⟨q, hq⟩ := q_str (A := fun q => s.heap.size ≤ q) h2.1 (fun w hw => hs w (h2.2 w hw)) hA
        exact ⟨q, fun z' _ h => by cases h; exact hq⟩
    · exact ⟨(0, 0), fun z h => absurd h hi⟩
  obtain ⟨sq, hsq⟩ := Classical.axiomOfChoice hst
  obtain ⟨t1, e1, hT1⟩ := va_Tof (tm := .static "PreparedPlans" "NONE_SEEN" "[I") (ty := .int) (N := 4) (f := fun _ => .int (-1)) (A := fun q => s.heap.size ≤ q) (by decide) (hs _ (List.mem_of_getElem? (i := 16) (by decide +kernel))) (va_eqt (hs _ (List.mem_of_getElem? (i := 17) (by decide +kernel)))) (fun j hj => by
    rcases (show j = 0 ∨ j = 1 ∨ j = 2 ∨ j = 3 by omega) with e | e | e | e <;> subst e
    · exact va_eqt (hs _ (List.mem_of_getElem? (i := 18) (by decide +kernel)))
    · exact va_eqt (hs _ (List.mem_of_getElem? (i := 19) (by decide +kernel)))
    · exact va_eqt (hs _ (List.mem_of_getElem? (i := 20) (by decide +kernel)))
    · exact va_eqt (hs _ (List.mem_of_getElem? (i := 21) (by decide +kernel)))) hA
  obtain ⟨t2, e2, hT2⟩ := va_Tof (tm := .static "java/util/ArrayList" "DEFAULTCAPACITY_EMPTY_ELEMENTDATA" "[Ljava/lang/Object;") (ty := .object "java/lang/Object") (N := 0) (f := fun _ => .null) (A := fun q => s.heap.size ≤ q) (by decide) (hs _ (List.mem_of_getElem? (i := 5) (by decide +kernel))) (va_eqt (hs _ (List.mem_of_getElem? (i := 7) (by decide +kernel)))) (fun j hj => absurd hj (Nat.not_lt_zero j)) hA
  obtain ⟨u1, g1, hU1⟩ := va_Tof (tm := .static "java/lang/Integer" "DigitOnes" "[B") (ty := .byte) (N := 100) (f := fun j => .int (dg_O j)) (A := fun q => s.heap.size ≤ q) (by decide) (hs _ (List.mem_of_getElem? (i := 23) (by decide +kernel))) (va_eqt (hs _ (List.mem_of_getElem? (i := 24) (by decide +kernel)))) (fun j hj => va_eqt (hs _ (q_dig1 j hj))) hA
  obtain ⟨u2, g2, hU2⟩ := va_Tof (tm := .static "java/lang/Integer" "DigitTens" "[B") (ty := .byte) (N := 100) (f := fun j => .int (dg_T j)) (A := fun q => s.heap.size ≤ q) (by decide) (hs _ (List.mem_of_getElem? (i := 126) (by decide +kernel))) (va_eqt (hs _ (List.mem_of_getElem? (i := 127) (by decide +kernel)))) (fun j hj => va_eqt (hs _ (q_dig2 j hj))) hA
  obtain ⟨mi, hmi⟩ := va_Mi.of (C := "[Ljava/lang/Object;") (hs _ (List.mem_of_getElem? (i := 262) (by decide +kernel)))
  have h3 : ∃ t3, va_Z "jdk/internal/util/Preconditions" "SIOOBE_FORMATTER" "Ljava/util/function/BiFunction;" .null (fun q => s.heap.size ≤ q) s s.heap ∨ va_Z "jdk/internal/util/Preconditions" "SIOOBE_FORMATTER" "Ljava/util/function/BiFunction;" (.ref t3) (fun q => s.heap.size ≤ q) s s.heap := by
    rcases va_Zqof (C := "jdk/internal/util/Preconditions") (n := "SIOOBE_FORMATTER") (d := "Ljava/util/function/BiFunction;") (A := fun q => s.heap.size ≤ q) (hts _ (List.mem_of_getElem? (i := 563) (by decide +kernel))) (hts _ (List.mem_of_getElem? (i := 61) (by decide +kernel))) (hs _ (List.mem_of_getElem? (i := 11) (by decide +kernel))) hA with h | ⟨t, h⟩
    · exact ⟨0, Or.inl h⟩
    · exact ⟨t, Or.inr h⟩
  obtain ⟨t3, h3⟩ := h3
  have hne : b ≠ t1 := va_neR (t := .arg 0) (u := .static "PreparedPlans" "NONE_SEEN" "[I") (hs _ (List.mem_of_getElem? (i := 742) (by decide +kernel))) rfl e1
  refine ⟨fun c => (D c).1, fun c => (D c).2, ra, q_ad t1 t2 t3 b mi u1 u2 sq, ?_, ?_, ?_, ?_, ?_, rfl, ?_⟩
  · refine ⟨fun c q hq => hD c q hq, hra, ⟨fun w hw ht => va_Nw.of ht (hts w hw), fun C hC => va_AO.of (hts _ hC)⟩, q_tr hfl, ?_, ?_⟩
    · exact vx_Zqof (hts _ (List.mem_of_getElem? (i := 387) (by decide +kernel))) (hts _ (List.mem_of_getElem? (i := 74) (by decide +kernel))) (hs _ (List.mem_of_getElem? (i := 8) (by decide +kernel))) hA
    · exact vx_Zqof (hts _ (List.mem_of_getElem? (i := 389) (by decide +kernel))) (hts _ (List.mem_of_getElem? (i := 74) (by decide +kernel))) (hs _ (List.mem_of_getElem? (i := 9) (by decide +kernel))) hA
  · intro q hq
    obtain ⟨a, c, cA, kA, q1, -⟩ := Cond.exactly_spec (args := #[Value.ref b]) (first := s) (o := none) (s := s) (idx := []) (t := .string q.1 q.2.1) (cls := "java/lang/String") (hs _ (q_exM _ (List.mem_map.mpr ⟨q, hq, rfl⟩)))
    exact ⟨a, vk_R.of (hts _ (q_refM _ (List.mem_map.mpr ⟨q, hq, rfl⟩))) q1⟩
  · exact ⟨⟨va_Zref (hts _ (List.mem_of_getElem? (i := 1391) (by decide +kernel))) (hts _ (List.mem_of_getElem? (i := 64) (by decide +kernel))) g1 hA, hU1⟩, va_Zref (hts _ (List.mem_of_getElem? (i := 1393) (by decide +kernel))) (hts _ (List.mem_of_getElem? (i := 64) (by decide +kernel))) g2 hA, hU2⟩
  · refine ⟨⟨va_Zof (hts _ (List.mem_of_getElem? (i := 547) (by decide +kernel))) (hts _ (List.mem_of_getElem? (i := 55) (by decide +kernel))) (va_eqi (hs _ (List.mem_of_getElem? (i := 10) (by decide +kernel)))) hA, h3, va_Zref (hts _ (List.mem_of_getElem? (i := 154) (by decide +kernel))) (hts _ (List.mem_of_getElem? (i := 70) (by decide +kernel))) e2 hA, va_Zref (hts _ (List.mem_of_getElem? (i := 1102) (by decide +kernel))) (hts _ (List.mem_of_getElem? (i := 65) (by decide +kernel))) e1 hA⟩, fun i hi => ?_, fun q hq => ?_⟩
    · have hz : ∃ z, x_sref[i]? = some z := ⟨_, List.getElem?_eq_getElem (show i < x_sref.length from hi)⟩
      obtain ⟨z, hz⟩ := hz
      obtain ⟨-, g2, g3, g4, g5⟩ := hsq i z hi hz
      have a1 : q_ad t1 t2 t3 b mi u1 u2 sq (4 + i) = (sq i).1 := by
        unfold q_ad
        rw [if_neg (by omega), if_neg (by omega), if_neg (by omega), if_neg (by omega), if_neg (by omega), if_neg (by omega), if_neg (by omega), if_pos (by omega), Nat.add_sub_cancel_left]
      have a2 : q_ad t1 t2 t3 b mi u1 u2 sq (30 + i) = (sq i).2 := by
        unfold q_ad
        rw [if_neg (by omega), if_neg (by omega), if_neg (by omega), if_neg (by omega), if_neg (by omega), if_neg (by omega), if_neg (by omega), if_neg (by omega), Nat.add_sub_cancel_left]
      unfold x_Str
      show va_O _ (q_ad t1 t2 t3 b mi u1 u2 sq (4 + i)) _ s s.heap ∧ va_OF _ _ _ _ (q_ad t1 t2 t3 b mi u1 u2 sq (4 + i)) _ s s.heap ∧ va_OF _ _ _ (.ref (q_ad t1 t2 t3 b mi u1 u2 sq (30 + i))) (q_ad t1 t2 t3 b mi u1 u2 sq (4 + i)) _ s s.heap ∧ va_T _ (q_ad t1 t2 t3 b mi u1 u2 sq (30 + i)) _ _ _ s s.heap
      rw [a1, a2]
      exact ⟨g2, g3, g4, g5⟩
    · obtain ⟨i, hi⟩ := List.getElem?_of_mem hq
      have hi26 : i < 26 := (List.getElem?_eq_some_iff.mp hi).1
      have en := q_num i hi26 q hi
      have a1 : q_ad t1 t2 t3 b mi u1 u2 sq (4 + q.2.2.2) = (sq i).1 := by
        rw [en]
        unfold q_ad
        rw [if_neg (by omega), if_neg (by omega), if_neg (by omega), if_neg (by omega), if_neg (by omega), if_neg (by omega), if_neg (by omega), if_pos (by omega), Nat.add_sub_cancel_left]
      show vk_R q.1 q.2.1 q.2.2.1 (q_ad t1 t2 t3 b mi u1 u2 sq (4 + q.2.2.2)) s
      rw [a1]
      exact vk_R.of (hts _ (q_refS _ (List.mem_map.mpr ⟨q, hq, rfl⟩))) (hsq i q hi26 hi).1
  · exact ⟨hmi, _, hT2⟩
  · refine ⟨fun k c k0 hk => ?_, fun i j ci cj i0 j0 hi hj e => ?_, fun _ _ => rfl, Nat.le_refl _, fun c hc => ?_⟩
    · rcases q_M0c k0 hk with ⟨rfl, rfl⟩ | ⟨rfl, rfl⟩
      · obtain ⟨cell, c1, c2, c3, c4, c5, c6, -⟩ := hT1
        exact ⟨by omega, fun j hj => trivial, (fun h => by cases h), List.mem_of_getElem? (i := 0) rfl, cell, c1, c2, c3, c4, c5, c6⟩
      · obtain ⟨cell, c1, c2, c3, c4, c5⟩ := hX
        exact ⟨by omega, fun j hj => trivial, (fun h => by cases h), List.mem_of_getElem? (i := 0) rfl, cell, c1, c2, c3, by omega, by rw [c4], c5⟩
    · rcases q_M0c i0 hi with ⟨rfl, -⟩ | ⟨rfl, -⟩ <;> rcases q_M0c j0 hj with ⟨rfl, -⟩ | ⟨rfl, -⟩
      · rfl
      · exact absurd (show t1 = b from e).symm hne
      · exact absurd (show b = t1 from e) hne
      · rfl
    · exact ⟨275, (Option.some.inj (show some (x_gh 275) = some c from hc)).symm, by decide⟩
