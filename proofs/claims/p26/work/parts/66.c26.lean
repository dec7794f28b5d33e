/-! ===== the rows: a call of a check ===== -/
section XCHK
variable {G : XE} {M Mc : XMI} {d mc ms nb0 : Nat} {ad0 : Nat → Nat} {Qn : XH → Option Value → Prop} {Qx : XH → String → Prop} {N N1 : XH} {cells slots pc pc' t : Nat} {L : List (Option Value)}
/-- not caught here -/
theorem X_out {E : String} (hhh : x_hh M = []) (h1 : cells ≤ mc) (h2 : slots ≤ ms) (hq : Qx N E) : x_X G M (x_Z G d mc ms ad0 nb0 Qn Qx) N cells slots pc L E := by
  intro p e s m args below meth c ad nb H locs ls rest q ce B hR hnb he hS hl hcell hv hcl
  obtain ⟨hx, hb, hml, hr, hlk, hown, hts, hW, hkp, htb, hnm, hKn, hok⟩ := id B
  exact vx_out (fun x hx2 => by rw [htb, hhh] at hx2; cases hx2) hlk hcell hv hcl (fun t ht _ => ⟨⟨ad, nb, N, hnb, he, by rw [ht]; exact hR, hq⟩, hS.F ht⟩) hS.2.2 h1 h2
theorem X_vchk {idx n d' mc' ms' o ci nf : Nat} {T : u_T} {V : Nat → Value} {st As rest : List Value} {P : Prop} {C : String} (hN : N o = some (.inl (ci, V))) (hk : x_LV (x_own M) idx n Mc) (hM : x_M G Mc d' mc' ms' (.ref o :: As) N (x_QnP P N1) (x_QxP P N1 C))
    (hd : x_at (x_k M) pc = some (.invokevirtual idx, pc', t)) (hst : st = As.reverse ++ .ref o :: rest) (hci : vwCl[ci]? = some ((x_y Mc).cls, T, nf)) (hn : As.length = n) (hrest : (rest.map fun v => v.category).sum ≤ 8) (hL : x_nL Mc ≤ 81) (hdd : d' + 1 ≤ d) (h1 : cells + mc' ≤ mc) (h2 : slots + ms' ≤ ms) (hhh : x_hh M = []) (kx : ¬ P → Qx N1 C)
    (kk : P → x_W G M (x_Z G d mc ms ad0 nb0 Qn Qx) N1 (cells + mc') (slots + ms') pc' L rest) : x_W G M (x_Z G d mc ms ad0 nb0 Qn Qx) N cells slots pc L st :=
  X_callV (T := T) (nf := nf) hk hM hd hst hN hci hn hrest (x_fit_of hL hdd h1 h2) (fun N' E h => by obtain ⟨hp, rfl, rfl⟩ := h; exact X_out hhh h1 h2 (kx hp)) (fun N' r h => by obtain ⟨hp, rfl, rfl⟩ := h; exact kk hp)
end XCHK
def x_QnV (P : Prop) (N : XH) (v : Value) : XH → Option Value → Prop := fun N' r => P ∧ N' = N ∧ r = some v
theorem m_rngl {x y : Int32} {m : Nat} (hm : y = nI m) (hb : m < 2147483648) (h : 0 ≤ x ∧ x < y) : ∃ j, j < m ∧ x = nI j := by
  obtain ⟨j, h1, h2⟩ := nI_of (Int32.not_lt.mpr h.1)
  exact ⟨j, (n_lt h2 hm h1 hb).mp h.2, h2⟩
