/-! ===== an abstract machine over the kit's rows: what a method's row, a field's, a call's are ===== -/
/-- a cell: an object (its class's place in vwCl, its fields) or an array (may it be written, its type, its length, what it holds); references are names -/
abbrev XC : Type := (Nat × (Nat → Value)) ⊕ (Bool × FieldType × Nat × (Nat → Value))
abbrev XH : Type := Nat → Option XC
/-- a method's instructions: pc, instruction, next pc, target -/
abbrev XK : Type := List (Nat × Instr × Nat × Nat)
/-- own class, name, bytes, locals, return, handlers, instructions -/
abbrev XMI : Type := String × MethodName × ByteArray × Nat × Option FieldType × List (Nat × Nat × Nat × Nat) × XK
/-- the words that hold in every state -/
def x_T : List Cond := lw_tbl.filter goodWord
abbrev x_own (M : XMI) : String := M.1
abbrev x_y (M : XMI) : MethodName := M.2.1
abbrev x_by (M : XMI) : ByteArray := M.2.2.1
abbrev x_nL (M : XMI) : Nat := M.2.2.2.1
abbrev x_ret (M : XMI) : Option FieldType := M.2.2.2.2.1
abbrev x_hh (M : XMI) : List (Nat × Nat × Nat × Nat) := M.2.2.2.2.2.1
abbrev x_k (M : XMI) : XK := M.2.2.2.2.2.2
def x_len : Instr → Nat
  | .bipush _ | .iload _ | .lload _ | .aload _ | .istore _ | .lstore _ | .astore _ | .ldc _ | .newarray _ => 2
  | .sipush _ | .iinc _ _ | .ifCond _ _ | .if_icmp _ _ | .if_acmp _ _ | .goto _ | .ifnull _ | .ifnonnull _ | .getfield _ | .putfield _ | .getstatic _ | .putstatic _ | .invokevirtual _ | .invokespecial _ | .invokestatic _ | .new _ | .anewarray _ | .checkcast _ | .instanceof _ | .ldc_w _ | .ldc2_w _ => 3
  | .tableswitch _ _ _ _ | .lookupswitch _ _ => 0
  | _ => 1
def x_off : Instr → Option Int
  | .ifCond _ o | .if_icmp _ o | .if_acmp _ o | .goto o | .ifnull o | .ifnonnull o => some o
  | _ => none
def x_okE (b : ByteArray) (e : Nat × Instr × Nat × Nat) : Bool :=
  decide (decode b e.1 = .ok (e.2.1, e.2.2.1 - e.1)) && decide (e.1 ≤ e.2.2.1) && (x_len e.2.1 == 0 || x_len e.2.1 == e.2.2.1 - e.1) && (match x_off e.2.1 with | some o => decide ((e.1 : Int) + o = (e.2.2.2 : Int)) | none => true)
def x_okK (b : ByteArray) (K : XK) : Bool := K.all (x_okE b)
def x_at : XK → Nat → Option (Instr × Nat × Nat)
  | [], _ => none
  | e :: t, k => bif Nat.beq e.1 k then some e.2 else x_at t k
theorem x_at_mem : ∀ (K : XK) (k : Nat) (r : Instr × Nat × Nat), x_at K k = some r → (k, r) ∈ K
  | [], k, r, h => by cases h
  | e :: t, k, r, h => by
    unfold x_at at h
    cases hb : Nat.beq e.1 k with
    | true =>
      rw [hb] at h
      have h1 : e.2 = r := Option.some.inj h
      have h2 : e.1 = k := Nat.eq_of_beq_eq_true hb
      rw [← h1, ← h2]
      exact List.mem_cons_self
    | false =>
      rw [hb] at h
      exact List.mem_cons_of_mem _ (x_at_mem t k r h)
/-- a class of the list by its place: name, fields, their number, their types -/
def x_Cl (ci : Nat) (C : String) (T : u_T) (n : Nat) (ty : Nat → FieldType) : Prop :=
  vwCl[ci]? = some (C, T, n) ∧ (∀ w ∈ u_ws C T n, w ∈ x_T) ∧ (∀ k, k < n → parseFieldDescriptor (T k).2.2.1 = some (ty k)) ∧ ∀ a, a < n → ∀ b, b < n → a ≠ b → (T a).2.1 ≠ (T b).2.1
/-- what entry idx of own's pool names: field k, of this type, of the class at place ci -/
def x_FL (own : String) (idx ci k : Nat) (ty : FieldType) (fin : Bool) : Prop :=
  ∃ (C : String) (T : u_T) (n : Nat) (tys : Nat → FieldType), x_Cl ci C T n tys ∧ k < n ∧ tys k = ty ∧ (T k).2.2.2 = fin ∧
    (Cond.fieldLink own idx (T k).1 (T k).2.1 (T k).2.2.1 ∈ x_T ∨ ∃ host, Cond.fieldLinkNest own idx (T k).1 (T k).2.1 (T k).2.2.1 host ∈ lw_tbl)
/-- entry idx of own's pool names the class at place ci, which can be made -/
def x_CN (own : String) (idx ci : Nat) (C : String) (T : u_T) (n : Nat) (ty : Nat → FieldType) : Prop :=
  x_Cl ci C T n ty ∧ Cond.classLink own idx C ∈ x_T ∧ Cond.instantiable C n ∈ x_T ∧ Cond.initialized C ∈ x_T
/-- the checks of a method's row: its bytes, its class, its code among the tables' words -/
def x_ok (M : XMI) : Prop := x_okK (x_by M) (x_k M) = true ∧ x_own M = (x_y M).cls ∧ plainName (x_y M).cls = true
/-- the callee's row: its code is among the words, its descriptor has n parameters -/
def x_Cw (Mc : XMI) (n : Nat) : Prop :=
  (match x_hh Mc with | [] => Cond.code (x_y Mc) (x_by Mc) (x_nL Mc) (x_ret Mc) | hh => Cond.codeWith (x_y Mc) (x_by Mc) (x_nL Mc) (x_ret Mc) hh) ∈ x_T ∧ Cond.initialized (x_y Mc).cls ∈ x_T ∧ ((x_y Mc).cls ≠ "java/lang/invoke/MethodHandle" ∧ (x_y Mc).cls ≠ "java/lang/invoke/VarHandle") ∧ (parseMethodDescriptor (x_y Mc).desc).map (fun d => d.parameters.length) = some n
def x_LV (own : String) (idx n : Nat) (Mc : XMI) : Prop := x_Cw Mc n ∧ x_hh Mc = [] ∧ Cond.methodLink own idx (x_y Mc) ∈ x_T ∧ Cond.instanceMethod (x_y Mc) ∈ x_T ∧ Cond.selects (x_y Mc).cls (x_y Mc) (x_y Mc) ∈ x_T
def x_LS (own : String) (idx n : Nat) (Mc : XMI) : Prop := x_Cw Mc n ∧ x_hh Mc = [] ∧ Cond.static (x_y Mc) ∈ x_T ∧ Cond.methodLink own idx (x_y Mc) ∈ x_T
/-- a static method with handlers -/
def x_LSX (own : String) (idx n : Nat) (Mc : XMI) : Prop := x_Cw Mc n ∧ (∃ a l, x_hh Mc = a :: l) ∧ Cond.static (x_y Mc) ∈ x_T ∧ Cond.methodLink own idx (x_y Mc) ∈ x_T
/-- a static method of a nest mate -/
def x_LSN (own : String) (idx n : Nat) (Mc : XMI) (host : String) : Prop := x_Cw Mc n ∧ x_hh Mc = [] ∧ Cond.static (x_y Mc) ∈ x_T ∧ Cond.methodLinkNest own idx (x_y Mc) host ∈ lw_tbl
/-- a constructor of ours -/
def x_LI (own : String) (idx n : Nat) (Mc : XMI) : Prop := x_Cw Mc n ∧ x_hh Mc = [] ∧ x_ret Mc = none ∧ (x_y Mc).name = "<init>" ∧ Cond.instanceMethod (x_y Mc) ∈ x_T ∧ Cond.methodLink own idx (x_y Mc) ∈ x_T
def x_LIN (own : String) (idx n : Nat) (Mc : XMI) (host : String) : Prop := x_Cw Mc n ∧ x_hh Mc = [] ∧ x_ret Mc = none ∧ (x_y Mc).name = "<init>" ∧ Cond.instanceMethod (x_y Mc) ∈ x_T ∧ Cond.methodLinkNest own idx (x_y Mc) host ∈ lw_tbl
/-- a call whose named method is abstract: the receiver's class has its own -/
def x_LU (own : String) (idx n : Nat) (x : MethodName) (Mc : XMI) : Prop := x_Cw Mc n ∧ x_hh Mc = [] ∧ Cond.methodLink own idx x ∈ x_T ∧ Cond.sameMethod x.cls x.cls x.name x.desc ∈ x_T ∧ Cond.selects (x_y Mc).cls x (x_y Mc) ∈ x_T ∧ Cond.instanceMethod (x_y Mc) ∈ x_T ∧ Cond.declares ⟨x.cls, x.name, x.desc⟩ ∈ lw_tbl ∧ (x.cls ≠ "java/lang/invoke/MethodHandle" ∧ x.cls ≠ "java/lang/invoke/VarHandle") ∧ x.desc = (x_y Mc).desc
