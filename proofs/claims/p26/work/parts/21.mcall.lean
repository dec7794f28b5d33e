/-! ===== the reference: calls within it ===== -/
theorem x_fit_of {G : XE} {d mc ms d' mc' ms' cells slots nb0 : Nat} {ad0 : Nat → Nat} {Qn : XH → Option Value → Prop} {Qx : XH → String → Prop} {Mc : XMI} (h : x_nL Mc ≤ 81) (hd : d' + 1 ≤ d) (h1 : cells + mc' ≤ mc) (h2 : slots + ms' ≤ ms) : x_fit (x_Z G d mc ms ad0 nb0 Qn Qx) cells slots Mc d' mc' ms' := by
  refine ⟨hd, ?_, h1, h2⟩
  show 8 + (x_nL Mc + 11) + 100 * d' ≤ 100 * d
  omega
section MCALL
variable {G : XE} {M Mc : XMI} {d mc ms nb0 : Nat} {ad0 : Nat → Nat} {Qn : XH → Option Value → Prop} {Qx : XH → String → Prop} {B N N1 : XH} {I : Nat → Int32} {T : Int64} {S : Nat → Nat → Int32} {rd tx gv pl : Nat → Int32} {cells slots pc pc' t : Nat} {L : List (Option Value)}
/-- a static call whose end is known -/
theorem X_scall {idx n d' mc' ms' : Nat} {st As rest : List Value} {v : Value} (hk : x_LS (x_own M) idx n Mc) (hM : x_M G Mc d' mc' ms' As N (x_Ret N1 v) x_noX)
    (hd : x_at (x_k M) pc = some (.invokestatic idx, pc', t)) (hst : st = As.reverse ++ rest) (hn : As.length = n) (hrest : (rest.map fun v => v.category).sum ≤ 8) (hL : x_nL Mc ≤ 81) (hdd : d' + 1 ≤ d) (h1 : cells + mc' ≤ mc) (h2 : slots + ms' ≤ ms)
    (kk : x_W G M (x_Z G d mc ms ad0 nb0 Qn Qx) N1 (cells + mc') (slots + ms') pc' L (v :: rest)) : x_W G M (x_Z G d mc ms ad0 nb0 Qn Qx) N cells slots pc L st :=
  X_callS hk hM hd hst hn hrest (x_fit_of hL hdd h1 h2) (fun _ _ h => h.elim) (fun N' r h => by obtain ⟨rfl, rfl⟩ := h; exact kk)
end MCALL
def bI (p : Prop) [Decidable p] : Int32 := if p then 1 else 0
theorem bI_t {p : Prop} [Decidable p] (h : p) : bI p = 1 := if_pos h
theorem bI_f {p : Prop} [Decidable p] (h : ¬ p) : bI p = 0 := if_neg h
theorem bI_ne {p : Prop} [Decidable p] : ¬ bI p = 0 ↔ p := by
  unfold bI
  by_cases h : p
  · rw [if_pos h]; simp [h]
  · rw [if_neg h]; simp [h]
theorem i2l_le {x y : Int32} : x.toInt64 ≤ y.toInt64 ↔ x ≤ y := by
  rw [Int64.le_iff_toInt_le, Int32.toInt_toInt64, Int32.toInt_toInt64, Int32.le_iff_toInt_le]
