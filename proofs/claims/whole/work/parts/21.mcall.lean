/-! ===== the reference: calls within it ===== -/
theorem x_fit_of {G : XE} {d mc ms d' mc' ms' cells slots nb0 : Nat} {ad0 : Nat → Nat} {Qn : XH → Option Value → Prop} {Qx : XH → String → Prop} {Mc : XMI} (h : x_nL Mc ≤ 81) (hd : d' + 1 ≤ d) (h1 : cells + mc' ≤ mc) (h2 : slots + ms' ≤ ms) : x_fit (x_Z G d mc ms ad0 nb0 Qn Qx) cells slots Mc d' mc' ms' := by
  refine ⟨hd, ?_, h1, h2⟩
  show 8 + (x_nL Mc + 11) + 100 * d' ≤ 100 * d
  omega
section MCALL
variable {G : XE} {M Mc : XMI} {d mc ms nb0 : Nat} {ad0 : Nat → Nat} {Qn : XH → Option Value → Prop} {Qx : XH → String → Prop} {B N N1 : XH} {I : Nat → Int32} {T : Int64} {S : Nat → Nat → Int32} {rd tx gv pl : Nat → Int32} {cells slots pc pc' t : Nat} {L : List (Option Value)}
/-- a call whose end is known: a value -/
theorem X_mcall {idx n d' mc' ms' : Nat} {st As rest : List Value} {v : Value} (hk : x_LV (x_own M) idx n Mc) (hM : x_M G Mc d' mc' ms' (.ref 275 :: As) (mset B I T S rd tx gv pl) (x_Ret N1 v) x_noX)
    (hd : x_at (x_k M) pc = some (.invokevirtual idx, pc', t)) (hst : st = As.reverse ++ .ref 275 :: rest) (hcl : (x_y Mc).cls = RX11) (hn : As.length = n) (hrest : (rest.map fun v => v.category).sum ≤ 8) (hL : x_nL Mc ≤ 81) (hdd : d' + 1 ≤ d) (h1 : cells + mc' ≤ mc) (h2 : slots + ms' ≤ ms)
    (kk : x_W G M (x_Z G d mc ms ad0 nb0 Qn Qx) N1 (cells + mc') (slots + ms') pc' L (v :: rest)) : x_W G M (x_Z G d mc ms ad0 nb0 Qn Qx) (mset B I T S rd tx gv pl) cells slots pc L st :=
  X_callV (T := TX11) (nf := 20) hk hM hd hst rfl (by rw [hcl]; rfl) hn hrest (x_fit_of hL hdd h1 h2) (fun _ _ h => h.elim) (fun N' r h => by obtain ⟨rfl, rfl⟩ := h; exact kk)
theorem X_mcallv {idx n d' mc' ms' : Nat} {st As rest : List Value} (hk : x_LV (x_own M) idx n Mc) (hM : x_M G Mc d' mc' ms' (.ref 275 :: As) (mset B I T S rd tx gv pl) (x_RetV N1) x_noX)
    (hd : x_at (x_k M) pc = some (.invokevirtual idx, pc', t)) (hst : st = As.reverse ++ .ref 275 :: rest) (hcl : (x_y Mc).cls = RX11) (hn : As.length = n) (hrest : (rest.map fun v => v.category).sum ≤ 8) (hL : x_nL Mc ≤ 81) (hdd : d' + 1 ≤ d) (h1 : cells + mc' ≤ mc) (h2 : slots + ms' ≤ ms)
    (kk : x_W G M (x_Z G d mc ms ad0 nb0 Qn Qx) N1 (cells + mc') (slots + ms') pc' L rest) : x_W G M (x_Z G d mc ms ad0 nb0 Qn Qx) (mset B I T S rd tx gv pl) cells slots pc L st :=
  X_callV (T := TX11) (nf := 20) hk hM hd hst rfl (by rw [hcl]; rfl) hn hrest (x_fit_of hL hdd h1 h2) (fun _ _ h => h.elim) (fun N' r h => by obtain ⟨rfl, rfl⟩ := h; exact kk)
/-- a static call whose end is known -/
theorem X_scall {idx n d' mc' ms' : Nat} {st As rest : List Value} {v : Value} (hk : x_LS (x_own M) idx n Mc) (hM : x_M G Mc d' mc' ms' As N (x_Ret N1 v) x_noX)
    (hd : x_at (x_k M) pc = some (.invokestatic idx, pc', t)) (hst : st = As.reverse ++ rest) (hn : As.length = n) (hrest : (rest.map fun v => v.category).sum ≤ 8) (hL : x_nL Mc ≤ 81) (hdd : d' + 1 ≤ d) (h1 : cells + mc' ≤ mc) (h2 : slots + ms' ≤ ms)
    (kk : x_W G M (x_Z G d mc ms ad0 nb0 Qn Qx) N1 (cells + mc') (slots + ms') pc' L (v :: rest)) : x_W G M (x_Z G d mc ms ad0 nb0 Qn Qx) N cells slots pc L st :=
  X_callS hk hM hd hst hn hrest (x_fit_of hL hdd h1 h2) (fun _ _ h => h.elim) (fun N' r h => by obtain ⟨rfl, rfl⟩ := h; exact kk)
end MCALL
def bI (p : Prop) [Decidable p] : Int32 := if p then 1 else 0
theorem bI_t {p : Prop} [Decidable p] (h : p) : bI p = 1 := if_pos h
theorem bI_f {p : Prop} [Decidable p] (h : ¬ p) : bI p = 0 := if_neg h
theorem bI_01 (p : Prop) [Decidable p] : bI p = 0 ∨ bI p = 1 := by
  unfold bI
  by_cases h : p
  · rw [if_pos h]; exact Or.inr rfl
  · rw [if_neg h]; exact Or.inl rfl
theorem bI_nar (p : Prop) [Decidable p] : narrow .boolean (.int (bI p)) = .int (bI p) := by
  rcases bI_01 p with h | h <;> rw [h] <;> rfl
theorem bI_ne {p : Prop} [Decidable p] : ¬ bI p = 0 ↔ p := by
  unfold bI
  by_cases h : p
  · rw [if_pos h]; simp [h]
  · rw [if_neg h]; simp [h]
theorem m_ix {I : Nat → Int32} {w k : Nat} {x : Int32} (h : I 3 = nI w) (hx : x = nI k) : (2400 : Int32) * I 3 + x = nI (2400 * w + k) := by
  rw [h, hx]
  exact (congrArg (· + nI k) (pk_mul 2400 w)).trans (nI_add _ _)
theorem lg_lt0 {x y : Int64} : lg_cmp x y < 0 ↔ x < y := by
  unfold lg_cmp
  by_cases h1 : x > y
  · rw [if_pos h1]
    constructor
    · intro h; exact absurd h (by decide)
    · intro h; exact absurd h (lg_lt_not h1)
  · rw [if_neg h1]
    by_cases h2 : x = y
    · rw [if_pos h2]
      constructor
      · intro h; exact absurd h (by decide)
      · intro h
        have h3 := Int64.lt_iff_toInt_lt.mp h
        rw [h2] at h3
        omega
    · rw [if_neg h2]
      constructor
      · intro _
        have h3 : ¬ y.toInt < x.toInt := fun q => h1 (Int64.lt_iff_toInt_lt.mpr q)
        have h4 : x.toInt ≠ y.toInt := fun q => h2 (Int64.toInt_inj.mp q)
        exact Int64.lt_iff_toInt_lt.mpr (by omega)
      · intro _; decide
theorem lg_gt0 {x y : Int64} : 0 < lg_cmp x y ↔ y < x := by
  unfold lg_cmp
  by_cases h1 : x > y
  · rw [if_pos h1]
    exact ⟨fun _ => h1, fun _ => by decide⟩
  · rw [if_neg h1]
    by_cases h2 : x = y
    · rw [if_pos h2]
      constructor
      · intro h; exact absurd h (by decide)
      · intro h; exact absurd h h1
    · rw [if_neg h2]
      constructor
      · intro h; exact absurd h (by decide)
      · intro h; exact absurd h h1
theorem i2l_le {x y : Int32} : x.toInt64 ≤ y.toInt64 ↔ x ≤ y := by
  rw [Int64.le_iff_toInt_le, Int32.toInt_toInt64, Int32.toInt_toInt64, Int32.le_iff_toInt_le]
theorem i2l_lt {x y : Int32} : x.toInt64 < y.toInt64 ↔ x < y := by
  rw [Int64.lt_iff_toInt_lt, Int32.toInt_toInt64, Int32.toInt_toInt64, Int32.lt_iff_toInt_lt]
