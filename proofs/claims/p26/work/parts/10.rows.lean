/-! ===== rows of the abstract machine: constants, locals, arithmetic, the stack, branches ===== -/
def x_loc : List (Option Value) → Nat → Option Value
  | [], _ => none
  | v :: _, 0 => v
  | _ :: t, n + 1 => x_loc t n
theorem x_loc_get : ∀ (L : List (Option Value)) (i : Nat) (v : Value), x_loc L i = some v ↔ L[i]? = some (some v)
  | [], i, v => by simp [x_loc]
  | a :: t, 0, v => by simp [x_loc]
  | a :: t, i + 1, v => by
    rw [List.getElem?_cons_succ]
    exact x_loc_get t i v
theorem x_loc_lt {L : List (Option Value)} {i : Nat} {v : Value} (h : x_loc L i = some v) : i < L.length := (List.getElem?_eq_some_iff.mp ((x_loc_get L i v).mp h)).1
def x_nl (a : Option Value) : Bool := match a with
  | some (.long _) | some (.double _) => false
  | _ => true
theorem x_nl_cat {a : Value} (h : x_nl (some a) = true) : a.category = 1 := by
  cases a <;> first | rfl | cases h
def x_put1 (v : Value) : Nat → List (Option Value) → Option (List (Option Value))
  | 0, _ :: t => some (some v :: t)
  | 1, a0 :: _ :: t => bif x_nl a0 then some (a0 :: some v :: t) else none
  | 2, a0 :: a1 :: _ :: t => bif x_nl a1 then some (a0 :: a1 :: some v :: t) else none
  | 3, a0 :: a1 :: a2 :: _ :: t => bif x_nl a2 then some (a0 :: a1 :: a2 :: some v :: t) else none
  | 4, a0 :: a1 :: a2 :: a3 :: _ :: t => bif x_nl a3 then some (a0 :: a1 :: a2 :: a3 :: some v :: t) else none
  | 5, a0 :: a1 :: a2 :: a3 :: a4 :: _ :: t => bif x_nl a4 then some (a0 :: a1 :: a2 :: a3 :: a4 :: some v :: t) else none
  | 6, a0 :: a1 :: a2 :: a3 :: a4 :: a5 :: _ :: t => bif x_nl a5 then some (a0 :: a1 :: a2 :: a3 :: a4 :: a5 :: some v :: t) else none
  | 7, a0 :: a1 :: a2 :: a3 :: a4 :: a5 :: a6 :: _ :: t => bif x_nl a6 then some (a0 :: a1 :: a2 :: a3 :: a4 :: a5 :: a6 :: some v :: t) else none
  | 8, a0 :: a1 :: a2 :: a3 :: a4 :: a5 :: a6 :: a7 :: _ :: t => bif x_nl a7 then some (a0 :: a1 :: a2 :: a3 :: a4 :: a5 :: a6 :: a7 :: some v :: t) else none
  | 9, a0 :: a1 :: a2 :: a3 :: a4 :: a5 :: a6 :: a7 :: a8 :: _ :: t => bif x_nl a8 then some (a0 :: a1 :: a2 :: a3 :: a4 :: a5 :: a6 :: a7 :: a8 :: some v :: t) else none
  | 10, a0 :: a1 :: a2 :: a3 :: a4 :: a5 :: a6 :: a7 :: a8 :: a9 :: _ :: t => bif x_nl a9 then some (a0 :: a1 :: a2 :: a3 :: a4 :: a5 :: a6 :: a7 :: a8 :: a9 :: some v :: t) else none
  | 11, a0 :: a1 :: a2 :: a3 :: a4 :: a5 :: a6 :: a7 :: a8 :: a9 :: a10 :: _ :: t => bif x_nl a10 then some (a0 :: a1 :: a2 :: a3 :: a4 :: a5 :: a6 :: a7 :: a8 :: a9 :: a10 :: some v :: t) else none
  | 12, a0 :: a1 :: a2 :: a3 :: a4 :: a5 :: a6 :: a7 :: a8 :: a9 :: a10 :: a11 :: _ :: t => bif x_nl a11 then some (a0 :: a1 :: a2 :: a3 :: a4 :: a5 :: a6 :: a7 :: a8 :: a9 :: a10 :: a11 :: some v :: t) else none
  | 13, a0 :: a1 :: a2 :: a3 :: a4 :: a5 :: a6 :: a7 :: a8 :: a9 :: a10 :: a11 :: a12 :: _ :: t => bif x_nl a12 then some (a0 :: a1 :: a2 :: a3 :: a4 :: a5 :: a6 :: a7 :: a8 :: a9 :: a10 :: a11 :: a12 :: some v :: t) else none
  | 14, a0 :: a1 :: a2 :: a3 :: a4 :: a5 :: a6 :: a7 :: a8 :: a9 :: a10 :: a11 :: a12 :: a13 :: _ :: t => bif x_nl a13 then some (a0 :: a1 :: a2 :: a3 :: a4 :: a5 :: a6 :: a7 :: a8 :: a9 :: a10 :: a11 :: a12 :: a13 :: some v :: t) else none
  | 15, a0 :: a1 :: a2 :: a3 :: a4 :: a5 :: a6 :: a7 :: a8 :: a9 :: a10 :: a11 :: a12 :: a13 :: a14 :: _ :: t => bif x_nl a14 then some (a0 :: a1 :: a2 :: a3 :: a4 :: a5 :: a6 :: a7 :: a8 :: a9 :: a10 :: a11 :: a12 :: a13 :: a14 :: some v :: t) else none
  | _, _ => none
def x_put2 (v : Value) : Nat → List (Option Value) → Option (List (Option Value))
  | 0, _ :: _ :: t => some (some v :: none :: t)
  | 1, a0 :: _ :: _ :: t => bif x_nl a0 then some (a0 :: some v :: none :: t) else none
  | 2, a0 :: a1 :: _ :: _ :: t => bif x_nl a1 then some (a0 :: a1 :: some v :: none :: t) else none
  | 3, a0 :: a1 :: a2 :: _ :: _ :: t => bif x_nl a2 then some (a0 :: a1 :: a2 :: some v :: none :: t) else none
  | 4, a0 :: a1 :: a2 :: a3 :: _ :: _ :: t => bif x_nl a3 then some (a0 :: a1 :: a2 :: a3 :: some v :: none :: t) else none
  | 5, a0 :: a1 :: a2 :: a3 :: a4 :: _ :: _ :: t => bif x_nl a4 then some (a0 :: a1 :: a2 :: a3 :: a4 :: some v :: none :: t) else none
  | 6, a0 :: a1 :: a2 :: a3 :: a4 :: a5 :: _ :: _ :: t => bif x_nl a5 then some (a0 :: a1 :: a2 :: a3 :: a4 :: a5 :: some v :: none :: t) else none
  | 7, a0 :: a1 :: a2 :: a3 :: a4 :: a5 :: a6 :: _ :: _ :: t => bif x_nl a6 then some (a0 :: a1 :: a2 :: a3 :: a4 :: a5 :: a6 :: some v :: none :: t) else none
  | 8, a0 :: a1 :: a2 :: a3 :: a4 :: a5 :: a6 :: a7 :: _ :: _ :: t => bif x_nl a7 then some (a0 :: a1 :: a2 :: a3 :: a4 :: a5 :: a6 :: a7 :: some v :: none :: t) else none
  | 9, a0 :: a1 :: a2 :: a3 :: a4 :: a5 :: a6 :: a7 :: a8 :: _ :: _ :: t => bif x_nl a8 then some (a0 :: a1 :: a2 :: a3 :: a4 :: a5 :: a6 :: a7 :: a8 :: some v :: none :: t) else none
  | 10, a0 :: a1 :: a2 :: a3 :: a4 :: a5 :: a6 :: a7 :: a8 :: a9 :: _ :: _ :: t => bif x_nl a9 then some (a0 :: a1 :: a2 :: a3 :: a4 :: a5 :: a6 :: a7 :: a8 :: a9 :: some v :: none :: t) else none
  | 11, a0 :: a1 :: a2 :: a3 :: a4 :: a5 :: a6 :: a7 :: a8 :: a9 :: a10 :: _ :: _ :: t => bif x_nl a10 then some (a0 :: a1 :: a2 :: a3 :: a4 :: a5 :: a6 :: a7 :: a8 :: a9 :: a10 :: some v :: none :: t) else none
  | 12, a0 :: a1 :: a2 :: a3 :: a4 :: a5 :: a6 :: a7 :: a8 :: a9 :: a10 :: a11 :: _ :: _ :: t => bif x_nl a11 then some (a0 :: a1 :: a2 :: a3 :: a4 :: a5 :: a6 :: a7 :: a8 :: a9 :: a10 :: a11 :: some v :: none :: t) else none
  | 13, a0 :: a1 :: a2 :: a3 :: a4 :: a5 :: a6 :: a7 :: a8 :: a9 :: a10 :: a11 :: a12 :: _ :: _ :: t => bif x_nl a12 then some (a0 :: a1 :: a2 :: a3 :: a4 :: a5 :: a6 :: a7 :: a8 :: a9 :: a10 :: a11 :: a12 :: some v :: none :: t) else none
  | 14, a0 :: a1 :: a2 :: a3 :: a4 :: a5 :: a6 :: a7 :: a8 :: a9 :: a10 :: a11 :: a12 :: a13 :: _ :: _ :: t => bif x_nl a13 then some (a0 :: a1 :: a2 :: a3 :: a4 :: a5 :: a6 :: a7 :: a8 :: a9 :: a10 :: a11 :: a12 :: a13 :: some v :: none :: t) else none
  | 15, a0 :: a1 :: a2 :: a3 :: a4 :: a5 :: a6 :: a7 :: a8 :: a9 :: a10 :: a11 :: a12 :: a13 :: a14 :: _ :: _ :: t => bif x_nl a14 then some (a0 :: a1 :: a2 :: a3 :: a4 :: a5 :: a6 :: a7 :: a8 :: a9 :: a10 :: a11 :: a12 :: a13 :: a14 :: some v :: none :: t) else none
  | _, _ => none
theorem x_bif {α : Type} {b : Bool} {x y : α} (h : (bif b then some x else none) = some y) : b = true ∧ x = y := by
  cases b with
  | true => exact ⟨rfl, Option.some.inj h⟩
  | false => cases h
theorem x_put1_eq {v : Value} {k : Nat} {L L' : List (Option Value)} (h : x_put1 v k L = some L') : L' = L.set k (some v) ∧ k < L.length ∧ (k = 0 ∨ ∃ j a, k = j + 1 ∧ L[j]? = some a ∧ x_nl a = true) := by
  unfold x_put1 at h
  split at h
  · cases h
    exact ⟨rfl, by simp, Or.inl rfl⟩
  · obtain ⟨h1, h2⟩ := x_bif h
    subst h2
    exact ⟨rfl, by simp, Or.inr ⟨0, _, rfl, rfl, h1⟩⟩
  · obtain ⟨h1, h2⟩ := x_bif h
    subst h2
    exact ⟨rfl, by simp, Or.inr ⟨1, _, rfl, rfl, h1⟩⟩
  · obtain ⟨h1, h2⟩ := x_bif h
    subst h2
    exact ⟨rfl, by simp, Or.inr ⟨2, _, rfl, rfl, h1⟩⟩
  · obtain ⟨h1, h2⟩ := x_bif h
    subst h2
    exact ⟨rfl, by simp, Or.inr ⟨3, _, rfl, rfl, h1⟩⟩
  · obtain ⟨h1, h2⟩ := x_bif h
    subst h2
    exact ⟨rfl, by simp, Or.inr ⟨4, _, rfl, rfl, h1⟩⟩
  · obtain ⟨h1, h2⟩ := x_bif h
    subst h2
    exact ⟨rfl, by simp, Or.inr ⟨5, _, rfl, rfl, h1⟩⟩
  · obtain ⟨h1, h2⟩ := x_bif h
    subst h2
    exact ⟨rfl, by simp, Or.inr ⟨6, _, rfl, rfl, h1⟩⟩
  · obtain ⟨h1, h2⟩ := x_bif h
    subst h2
    exact ⟨rfl, by simp, Or.inr ⟨7, _, rfl, rfl, h1⟩⟩
  · obtain ⟨h1, h2⟩ := x_bif h
    subst h2
    exact ⟨rfl, by simp, Or.inr ⟨8, _, rfl, rfl, h1⟩⟩
  · obtain ⟨h1, h2⟩ := x_bif h
    subst h2
    exact ⟨rfl, by simp, Or.inr ⟨9, _, rfl, rfl, h1⟩⟩
  · obtain ⟨h1, h2⟩ := x_bif h
    subst h2
    exact ⟨rfl, by simp, Or.inr ⟨10, _, rfl, rfl, h1⟩⟩
  · obtain ⟨h1, h2⟩ := x_bif h
    subst h2
    exact ⟨rfl, by simp, Or.inr ⟨11, _, rfl, rfl, h1⟩⟩
  · obtain ⟨h1, h2⟩ := x_bif h
    subst h2
    exact ⟨rfl, by simp, Or.inr ⟨12, _, rfl, rfl, h1⟩⟩
  · obtain ⟨h1, h2⟩ := x_bif h
    subst h2
    exact ⟨rfl, by simp, Or.inr ⟨13, _, rfl, rfl, h1⟩⟩
  · obtain ⟨h1, h2⟩ := x_bif h
    subst h2
    exact ⟨rfl, by simp, Or.inr ⟨14, _, rfl, rfl, h1⟩⟩
  · cases h
theorem x_put2_eq {v : Value} {k : Nat} {L L' : List (Option Value)} (h : x_put2 v k L = some L') : L' = (L.set k (some v)).set (k + 1) none ∧ k + 1 < L.length ∧ (k = 0 ∨ ∃ j a, k = j + 1 ∧ L[j]? = some a ∧ x_nl a = true) := by
  unfold x_put2 at h
  split at h
  · cases h
    exact ⟨rfl, by simp, Or.inl rfl⟩
  · obtain ⟨h1, h2⟩ := x_bif h
    subst h2
    exact ⟨rfl, by simp, Or.inr ⟨0, _, rfl, rfl, h1⟩⟩
  · obtain ⟨h1, h2⟩ := x_bif h
    subst h2
    exact ⟨rfl, by simp, Or.inr ⟨1, _, rfl, rfl, h1⟩⟩
  · obtain ⟨h1, h2⟩ := x_bif h
    subst h2
    exact ⟨rfl, by simp, Or.inr ⟨2, _, rfl, rfl, h1⟩⟩
  · obtain ⟨h1, h2⟩ := x_bif h
    subst h2
    exact ⟨rfl, by simp, Or.inr ⟨3, _, rfl, rfl, h1⟩⟩
  · obtain ⟨h1, h2⟩ := x_bif h
    subst h2
    exact ⟨rfl, by simp, Or.inr ⟨4, _, rfl, rfl, h1⟩⟩
  · obtain ⟨h1, h2⟩ := x_bif h
    subst h2
    exact ⟨rfl, by simp, Or.inr ⟨5, _, rfl, rfl, h1⟩⟩
  · obtain ⟨h1, h2⟩ := x_bif h
    subst h2
    exact ⟨rfl, by simp, Or.inr ⟨6, _, rfl, rfl, h1⟩⟩
  · obtain ⟨h1, h2⟩ := x_bif h
    subst h2
    exact ⟨rfl, by simp, Or.inr ⟨7, _, rfl, rfl, h1⟩⟩
  · obtain ⟨h1, h2⟩ := x_bif h
    subst h2
    exact ⟨rfl, by simp, Or.inr ⟨8, _, rfl, rfl, h1⟩⟩
  · obtain ⟨h1, h2⟩ := x_bif h
    subst h2
    exact ⟨rfl, by simp, Or.inr ⟨9, _, rfl, rfl, h1⟩⟩
  · obtain ⟨h1, h2⟩ := x_bif h
    subst h2
    exact ⟨rfl, by simp, Or.inr ⟨10, _, rfl, rfl, h1⟩⟩
  · obtain ⟨h1, h2⟩ := x_bif h
    subst h2
    exact ⟨rfl, by simp, Or.inr ⟨11, _, rfl, rfl, h1⟩⟩
  · obtain ⟨h1, h2⟩ := x_bif h
    subst h2
    exact ⟨rfl, by simp, Or.inr ⟨12, _, rfl, rfl, h1⟩⟩
  · obtain ⟨h1, h2⟩ := x_bif h
    subst h2
    exact ⟨rfl, by simp, Or.inr ⟨13, _, rfl, rfl, h1⟩⟩
  · obtain ⟨h1, h2⟩ := x_bif h
    subst h2
    exact ⟨rfl, by simp, Or.inr ⟨14, _, rfl, rfl, h1⟩⟩
  · cases h
def x_al (ad : Nat → Nat) (L : List (Option Value)) : List (Nat × Value) := (List.range L.length).filterMap fun i => (x_loc L i).map fun v => (i, x_tr ad v)
theorem x_al_mem {ad : Nat → Nat} {L : List (Option Value)} {q : Nat × Value} : q ∈ x_al ad L ↔ ∃ v, x_loc L q.1 = some v ∧ q.2 = x_tr ad v := by
  unfold x_al
  rw [List.mem_filterMap]
  constructor
  · rintro ⟨i, -, hi⟩
    cases hv : x_loc L i with
    | none => rw [hv] at hi; cases hi
    | some v =>
      rw [hv] at hi
      have := Option.some.inj hi
      subst this
      exact ⟨v, hv, rfl⟩
  · rintro ⟨v, hv, he⟩
    refine ⟨q.1, List.mem_range.mpr (x_loc_lt hv), ?_⟩
    rw [hv, Option.map_some, ← he]
theorem x_L_has {ad : Nat → Nat} {nb nL : Nat} {L : List (Option Value)} {ls : Array Slot} (h : x_L ad nb nL L ls) : lv_has ls nL (x_al ad L) :=
  ⟨h.1.1, h.2.1, fun q hq => by
    obtain ⟨v, h1, h2⟩ := x_al_mem.mp hq
    rw [h2]
    exact (h.2.2 q.1 v ((x_loc_get _ _ _).mp h1)).1⟩
theorem x_tr_cat (ad : Nat → Nat) (v : Value) : (x_tr ad v).category = v.category := by cases v <;> rfl
theorem x_L_put1 {ad : Nat → Nat} {nb nL k : Nat} {v : Value} {L L' : List (Option Value)} {ls ls' : Array Slot} (hl : x_L ad nb nL L ls) (hv : x_vok nb v) (h : x_put1 v k L = some L')
    (h' : lv_has ls' nL ((k, x_tr ad v) :: (x_al ad L).filter (fun q => !(q.1 == k) && !(q.1 + 1 == k && q.2.category == 2)))) : x_L ad nb nL L' ls' := by
  obtain ⟨h1, h2, h3⟩ := x_put1_eq h
  subst h1
  refine ⟨⟨h'.1, by simpa using hl.1.2⟩, h'.2.1, fun i w hi => ?_⟩
  by_cases e : i = k
  · subst e
    rw [List.getElem?_set_self h2] at hi
    cases hi
    exact ⟨h'.2.2 (i, x_tr ad v) List.mem_cons_self, hv⟩
  · rw [List.getElem?_set_ne (Ne.symm e)] at hi
    refine ⟨h'.2.2 (i, x_tr ad w) (List.mem_cons_of_mem _ (List.mem_filter.mpr ⟨x_al_mem.mpr ⟨w, (x_loc_get _ _ _).mpr hi, rfl⟩, ?_⟩)), (hl.2.2 i w hi).2⟩
    have e1 : (i == k) = false := by simpa using e
    rcases h3 with h3 | ⟨j, a, h3, h4, h5⟩
    · have e2 : (i + 1 == k) = false := by simp; omega
      simp [e1, e2]
    · by_cases ej : i = j
      · subst ej
        rw [hi] at h4
        cases h4
        have := x_nl_cat h5
        simp [e1, x_tr_cat, this]
      · have e2 : (i + 1 == k) = false := by simp; omega
        simp [e1, e2]
theorem x_L_put2 {ad : Nat → Nat} {nb nL k : Nat} {v : Value} {L L' : List (Option Value)} {ls ls' : Array Slot} (hl : x_L ad nb nL L ls) (hv : x_vok nb v) (h : x_put2 v k L = some L')
    (h' : lv_has ls' nL ((k, x_tr ad v) :: (x_al ad L).filter (fun q => !(q.1 == k) && (!(q.1 == k + 1) && !(q.1 + 1 == k && q.2.category == 2))))) : x_L ad nb nL L' ls' := by
  obtain ⟨h1, h2, h3⟩ := x_put2_eq h
  subst h1
  refine ⟨⟨h'.1, by simpa using hl.1.2⟩, h'.2.1, fun i w hi => ?_⟩
  by_cases e1 : i = k + 1
  · subst e1
    rw [List.getElem?_set_self (by simpa using h2)] at hi
    cases hi
  · rw [List.getElem?_set_ne (Ne.symm e1)] at hi
    by_cases e : i = k
    · subst e
      rw [List.getElem?_set_self (by omega)] at hi
      cases hi
      exact ⟨h'.2.2 (i, x_tr ad v) List.mem_cons_self, hv⟩
    · rw [List.getElem?_set_ne (Ne.symm e)] at hi
      refine ⟨h'.2.2 (i, x_tr ad w) (List.mem_cons_of_mem _ (List.mem_filter.mpr ⟨x_al_mem.mpr ⟨w, (x_loc_get _ _ _).mpr hi, rfl⟩, ?_⟩)), (hl.2.2 i w hi).2⟩
      have e3 : (i == k) = false := by simpa using e
      have e4 : (i == k + 1) = false := by simpa using e1
      rcases h3 with h3 | ⟨j, a, h3, h4, h5⟩
      · have e2 : (i + 1 == k) = false := by simp; omega
        simp [e3, e2, e4]
      · by_cases ej : i = j
        · subst ej
          rw [hi] at h4
          cases h4
          have := x_nl_cat h5
          simp [e3, e4, x_tr_cat, this]
        · have e2 : (i + 1 == k) = false := by simp; omega
          simp [e3, e2, e4]
def x_push : Instr → Option Value
  | .iconst n => some (.int (Int32.ofInt n))
  | .bipush n => some (.int (Int8.ofInt n).toInt32)
  | .sipush n => some (.int (Int16.ofInt n).toInt32)
  | .lconst n => some (.long (Int64.ofNat (n : Nat)))
  | .aconst_null => some .null
  | _ => none
def x_ldi : Instr → Option Nat
  | .iload_n k | .lload_n k | .aload_n k => some (k : Nat)
  | .iload k | .lload k | .aload k => some k
  | _ => none
def x_ldok : Instr → Value → Bool
  | .iload_n _, .int _ | .iload _, .int _ | .lload_n _, .long _ | .lload _, .long _ | .aload_n _, .ref _ | .aload _, .ref _ | .aload_n _, .null | .aload _, .null => true
  | _, _ => false
def x_sti : Instr → Value → Option Nat
  | .istore_n k, .int _ => some (k : Nat)
  | .istore k, .int _ => some k
  | .astore_n k, .ref _ => some (k : Nat)
  | .astore k, .ref _ => some k
  | .astore_n k, .null => some (k : Nat)
  | .astore k, .null => some k
  | _, _ => none
def x_stl : Instr → Option Nat
  | .lstore_n k => some (k : Nat)
  | .lstore k => some k
  | _ => none
/-- the upper operand is the second argument -/
def x_bin : Instr → Value → Value → Option Value
  | .iadd, .int x, .int y => some (.int (x + y))
  | .isub, .int x, .int y => some (.int (x - y))
  | .imul, .int x, .int y => some (.int (x * y))
  | .iand, .int x, .int y => some (.int (x &&& y))
  | .ior, .int x, .int y => some (.int (x ||| y))
  | .ixor, .int x, .int y => some (.int (x ^^^ y))
  | .ishl, .int x, .int y => some (.int (x <<< (y &&& 31)))
  | .ishr, .int x, .int y => some (.int (x >>> (y &&& 31)))
  | .ladd, .long x, .long y => some (.long (x + y))
  | .lsub, .long x, .long y => some (.long (x - y))
  | .lmul, .long x, .long y => some (.long (x * y))
  | .land, .long x, .long y => some (.long (x &&& y))
  | .lor, .long x, .long y => some (.long (x ||| y))
  | .lxor, .long x, .long y => some (.long (x ^^^ y))
  | .lushr, .long x, .int y => some (.long (x.toUInt64 >>> (y.toInt64.toUInt64 &&& Int64.toUInt64 63)).toInt64)
  | .lshl, .long x, .int y => some (.long (x <<< (y.toInt64 &&& 63)))
  | .lcmp, .long x, .long y => some (.int (lg_cmp x y))
  | _, _, _ => none
def x_un : Instr → Value → Option Value
  | .i2l, .int x => some (.long x.toInt64)
  | .l2i, .long x => some (.int x.toInt32)
  | .i2b, .int x => some (.int x.toInt8.toInt32)
  | .i2c, .int x => some (.int (x.toUInt32 % 65536).toInt32)
  | _, _ => none
