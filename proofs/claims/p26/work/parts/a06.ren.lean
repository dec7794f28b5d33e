/-! ===== cells under other names ===== -/
def vren (ρ : Nat → Nat) (v : Value) : Value := match v with
  | .ref k => .ref (ρ k)
  | v => v
def cren (ρ : Nat → Nat) (c : XC) : XC := match c with
  | .inl (ci, V) => .inl (ci, fun k => vren ρ (V k))
  | .inr (mu, ty, n, f) => .inr (mu, ty, n, fun j => vren ρ (f j))
def hren (ρ : Nat → Nat) (N : XH) : XH := fun k => (N (ρ k)).map (cren ρ)
theorem vren_tr {ρ ad : Nat → Nat} {v : Value} (h2 : ∀ k, ρ (ρ k) = k) : x_tr (fun k => ad (ρ k)) (vren ρ v) = x_tr ad v := by
  cases v with
  | ref k => exact congrArg Value.ref (congrArg ad (h2 k))
  | _ => rfl
theorem vren_ok {ρ : Nat → Nat} {nb β : Nat} {v : Value} (hβ : ∀ k, ρ k ≤ k + β) (h : x_vok nb v) : x_vok (nb + β + 1) (vren ρ v) := by
  cases v with
  | ref k =>
    exact Nat.lt_of_le_of_lt (hβ k) (Nat.lt_succ_of_lt (Nat.add_lt_add_right h β))
  | _ => trivial
theorem cren_ok {ρ : Nat → Nat} {nb β : Nat} {c : XC} (hβ : ∀ k, ρ k ≤ k + β) (h : x_cok nb c) : x_cok (nb + β + 1) (cren ρ c) := by
  rcases c with ⟨ci, V⟩ | ⟨mu, ty, n, f⟩
  · exact fun r hr j hj => vren_ok hβ (h r hr j hj)
  · exact fun j hj => vren_ok hβ (h j hj)
theorem cren_cell {G : XE} {ρ ad : Nat → Nat} {a : Nat} {c : XC} {H : Heap} (h2 : ∀ k, ρ (ρ k) = k) (h : x_cell G ad a c H) : x_cell G (fun k => ad (ρ k)) a (cren ρ c) H := by
  rcases c with ⟨ci, V⟩ | ⟨mu, ty, n, f⟩
  · obtain ⟨h1, r, hr, h3⟩ := h
    exact ⟨h1, r, hr, h3.to fun k _ => (vren_tr h2).symm⟩
  · obtain ⟨h1, h3, h4⟩ := h
    refine ⟨h1, h3, ?_⟩
    cases mu with
    | true => exact Eq.trans h4 (congrArg some (arrV_ext _ n fun j _ => (vren_tr h2).symm))
    | false =>
      obtain ⟨cell, c1, c2, c3, c4, c5, c6⟩ := h4
      exact ⟨cell, c1, c2, c3, c4, c5, fun j hj => (c6 j hj).trans (congrArg some (vren_tr h2).symm)⟩
section REN
variable {G : XE} {M : XMI} {Z : XZ} {N : XH} {cells slots pc : Nat} {L : List (Option Value)} {st : List Value}
theorem X_ren {ρ : Nat → Nat} (β : Nat) (h2 : ∀ k, ρ (ρ k) = k) (h64 : ∀ k, k < 64 → ρ k = k) (hβ : ∀ k, ρ k ≤ k + β) (hZ : Z.2.2.1 ≤ 64) (h0 : N 0 = none) (kk : x_W G M Z (hren ρ N) cells slots pc (L.map (Option.map (vren ρ))) (st.map (vren ρ))) : x_W G M Z N cells slots pc L st := by
  intro p e s m args below meth c ad nb H locs ls B hR hn he hS hl hvs
  have hr0 : ρ 0 = 0 := h64 0 (by decide)
  have hat : ∀ k b, hren ρ N k = some b → ∃ b0, N (ρ k) = some b0 ∧ b = cren ρ b0 := fun k b hk => by
    unfold hren at hk
    cases hN : N (ρ k) with
    | none => rw [hN] at hk; cases hk
    | some b0 =>
      rw [hN] at hk
      exact ⟨b0, rfl, (Option.some.inj hk).symm⟩
  have hne : ∀ k, k ≠ 0 → ρ k ≠ 0 := fun k k0 e => k0 (by rw [← h2 k, e, hr0])
  have R' : x_R G (fun k => ad (ρ k)) (nb + β + 1) (hren ρ N) H := by
    refine ⟨fun k b k0 hk => ?_, fun i j bi bj i0 j0 hi hj e => ?_, fun k hk => ?_, ?_, fun b hb => ?_⟩
    · obtain ⟨b0, hN, rfl⟩ := hat k b hk
      obtain ⟨a1, a2, a3⟩ := hR.1 _ b0 (hne k k0) hN
      refine ⟨?_, cren_ok hβ a2, cren_cell h2 a3⟩
      have h3 := hβ (ρ k)
      rw [h2] at h3
      omega
    · obtain ⟨ci, hi', -⟩ := hat i bi hi
      obtain ⟨cj, hj', -⟩ := hat j bj hj
      have h3 := hR.2.1 _ _ ci cj (hne i i0) (hne j j0) hi' hj' e
      rw [← h2 i, h3, h2]
    · show ad (ρ k) = _
      rw [h64 k hk]
      exact hR.2.2.1 k hk
    · have h3 := hR.2.2.2.1
      omega
    · obtain ⟨b0, hN, -⟩ := hat 0 b hb
      rw [hr0, h0] at hN
      cases hN
  have K := kk p e s m args below meth c (fun k => ad (ρ k)) (nb + β + 1) H locs ls B R' (by omega) (fun k hk => by
      show ad (ρ k) = _
      rw [h64 k (by omega)]
      exact he k hk) hS
    ⟨⟨hl.1.1, by rw [List.length_map]; exact hl.1.2⟩, hl.2.1, fun i v hi => by
      rw [List.getElem?_map] at hi
      cases hL : L[i]? with
      | none => rw [hL] at hi; cases hi
      | some o =>
        rw [hL] at hi
        have h4 : Option.map (vren ρ) o = some v := Option.some.inj hi
        cases o with
        | none => cases h4
        | some v0 =>
          obtain rfl := Option.some.inj h4
          obtain ⟨a1, a2⟩ := hl.2.2 i v0 hL
          exact ⟨a1.trans (congrArg (fun z => some (Slot.val z)) (vren_tr h2).symm), vren_ok hβ a2⟩⟩
    (fun v hv => by
      obtain ⟨v0, h4, rfl⟩ := List.mem_map.mp hv
      exact vren_ok hβ (hvs v0 h4))
  have e1 : (st.map (vren ρ)).map (x_tr fun k => ad (ρ k)) = st.map (x_tr ad) := by
    rw [List.map_map]
    exact List.map_congr_left fun v _ => vren_tr h2
  rw [e1] at K
  exact K
end REN
/-- the names 64 .. 274 and those from a on change places -/
def rsw (a : Nat) : Nat → Nat := fun k => if 64 ≤ k ∧ k < 275 then k - 64 + a else if a ≤ k ∧ k < a + 211 then k - a + 64 else k
theorem rsw_2 {a : Nat} (ha : 275 ≤ a) (k : Nat) : rsw a (rsw a k) = k := by
  unfold rsw
  by_cases h1 : 64 ≤ k ∧ k < 275
  · rw [if_pos h1, if_neg (by omega), if_pos ⟨by omega, by omega⟩]
    omega
  · rw [if_neg h1]
    by_cases h2 : a ≤ k ∧ k < a + 211
    · rw [if_pos h2, if_pos ⟨by omega, by omega⟩]
      omega
    · rw [if_neg h2, if_neg h1, if_neg h2]
theorem rsw_64 {a k : Nat} (ha : 275 ≤ a) (hk : k < 64) : rsw a k = k := by
  unfold rsw
  rw [if_neg (by omega), if_neg (by omega)]
theorem rsw_b {a : Nat} (ha : 275 ≤ a) (k : Nat) : rsw a k ≤ k + a := by
  unfold rsw
  by_cases h1 : 64 ≤ k ∧ k < 275
  · rw [if_pos h1]; omega
  · rw [if_neg h1]
    by_cases h2 : a ≤ k ∧ k < a + 211
    · rw [if_pos h2]; omega
    · rw [if_neg h2]; omega
theorem rsw_a {a j : Nat} (ha : 275 ≤ a) (hj : j < 211) : rsw a (a + j) = 64 + j := by
  unfold rsw
  rw [if_neg (by omega), if_pos ⟨by omega, by omega⟩]
  omega
theorem rsw_c {a k : Nat} (h1 : 64 ≤ k) (h2 : k < 275) : rsw a k = a + (k - 64) := by
  unfold rsw
  rw [if_pos ⟨h1, h2⟩]
  omega
theorem rsw_o {a k : Nat} (h1 : ¬ (64 ≤ k ∧ k < 275)) (h2 : ¬ (a ≤ k ∧ k < a + 211)) : rsw a k = k := by
  unfold rsw
  rw [if_neg h1, if_neg h2]
