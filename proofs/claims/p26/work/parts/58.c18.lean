/-! ===== the row: System.arraycopy of numbers ===== -/
def x_Lcpy (own : String) (idx : Nat) : Prop := Cond.methodLink own idx arraycopyName ∈ x_T ∧ Cond.native arraycopyName ∈ x_T ∧ Cond.static arraycopyName ∈ x_T ∧ Cond.initialized "java/lang/System" ∈ x_T
theorem lcpy_X3 : x_Lcpy RX3 47 := ⟨x_in 1053 (by decide +kernel) rfl, x_in 862 (by decide +kernel) rfl, x_in 861 (by decide +kernel) rfl, x_in 60 (by decide +kernel) rfl⟩
theorem lcpy_X7 : x_Lcpy RX7 25 := ⟨x_in 1058 (by decide +kernel) rfl, x_in 862 (by decide +kernel) rfl, x_in 861 (by decide +kernel) rfl, x_in 60 (by decide +kernel) rfl⟩
theorem lcpy_X9 : x_Lcpy RX9 40 := ⟨x_in 1063 (by decide +kernel) rfl, x_in 862 (by decide +kernel) rfl, x_in 861 (by decide +kernel) rfl, x_in 60 (by decide +kernel) rfl⟩
section XRC
variable {G : XE} {M : XMI} {d mc ms nb0 : Nat} {ad0 : Nat → Nat} {Qn : XH → Option Value → Prop} {Qx : XH → String → Prop} {N : XH} {cells slots pc pc' t : Nat} {L : List (Option Value)} {st : List Value}
theorem X_copyi {idx a b n0 n1 : Nat} {ty : FieldType} {f g : Nat → Int32} {sp dp n : Int32} (hl : x_Lcpy (x_own M) idx) (hd : x_at (x_k M) pc = some (.invokestatic idx, pc', t)) (hN0 : N a = some (.inr (true, ty, n0, fun j => .int (f j)))) (hN1 : N b = some (.inr (true, ty, n1, fun j => .int (g j)))) (hprim : refKind ty = false) (hfit : ∀ j, j < n0 → fits ty (.int (f j)) = true) (h1 : ¬ sp < 0) (h2 : ¬ dp < 0) (h3 : ¬ n < 0) (h4 : sp.toNatClampNeg + n.toNatClampNeg ≤ n0) (h5 : dp.toNatClampNeg + n.toNatClampNeg ≤ n1) (hf : 1 ≤ d) (hs : (st.map fun v => v.category).sum ≤ 80) (kk : x_W G M (x_Z G d mc ms ad0 nb0 Qn Qx) (x_set N b (.inr (true, ty, n1, fun j => .int (va_cpy f g sp.toNatClampNeg dp.toNatClampNeg n.toNatClampNeg j)))) cells slots pc' L st) : x_W G M (x_Z G d mc ms ad0 nb0 Qn Qx) N cells slots pc L (.int n :: .int dp :: .ref b :: .int sp :: .ref a :: st) := by
  have nn : ∀ z : Int32, ¬ z < 0 → z.toInt = (z.toNatClampNeg : Int) := by
    intro z hz
    have hz0 : (0 : Int) ≤ z.toInt := by
      have := Int32.not_lt.mp hz
      simpa using Int32.le_iff_toInt_le.mp this
    show z.toInt = ((z.toInt.toNat : Nat) : Int)
    omega
  intro p e s m args below meth c ad nb H locs ls B hR hnb he hS hl0 hvs
  obtain ⟨hx, hb, hml, hr, hlk, hown, hts, hW, hkp, htb, hnm, hKn, hok⟩ := id B
  obtain ⟨d1, e1⟩ := x_decn hok hd (n := 2) rfl
  subst e1
  obtain ⟨l1, l2, l3, l4⟩ := hl
  obtain ⟨-, p1, p2, p3, p4, p5⟩ := x_R_arr hR hN0
  obtain ⟨ho, g1, g2, g3, g4, g5⟩ := x_R_arr hR hN1
  have hc0 : H[ad a]? = some (arrV (G.2.2.2.2.1 ty) n0 (fun j => .int (f j))) := p5
  have hc1 : H[ad b]? = some (arrV (G.2.2.2.2.1 ty) n1 (fun j => .int (g j))) := g5
  have hA : x_A G (ad b) := g3 rfl
  obtain ⟨-, k0, hk0, cm0, hkk0⟩ := arrOfT_moved hW.alike (hKn.2.1 _ g4).1 n0 (fun j => .int (f j))
  obtain ⟨-, k1, hk1, cm1, hkk1⟩ := arrOfT_moved hW.alike (hKn.2.1 _ g4).1 n1 (fun j => .int (g j))
  intro T hT X
  obtain ⟨vm', X', step⟩ := X.arraycopy hx hown (hts _ l1) (hts _ l2) (hts _ l3) (hts _ l4) (src := ad a) (dst := ad b) (cs := arrV (G.2.2.2.2.1 ty) n0 (fun j => .int (f j))) (cd := arrV (G.2.2.2.2.1 ty) n1 (fun j => .int (g j))) (srcPos := sp) (destPos := dp) (n := n) (by rw [hT]; exact hc0) (by rw [hT]; exact hc1)
    (fun _ h => by cases h) (fun _ h => by cases h) (fun h => by cases h) (fun h => by cases h) hk0 hk1 hkk0 hkk1 (by simp [hprim]) h1 h2 h3
    (by rw [nn sp h1, nn n h3, arrV_size]; omega)
    (by rw [nn dp h2, nn n h3, arrV_size]; omega)
    (fun vm₁ _ i hi => by
      have e : (arrV (G.2.2.2.2.1 ty) n0 (fun j => Value.int (f j))).slots.getD (sp.toNatClampNeg + i) .null = .int (f (sp.toNatClampNeg + i)) := by
        rw [Array.getD_eq_getD_getElem?, arrV_read _ _ (by omega)]
        rfl
      refine ⟨?_, ?_⟩
      · rw [e]
        exact hfit _ (by omega)
      · rw [e]
        exact trivial)
    (g := F0 m pc ls (.int n :: .int dp :: .ref (ad b) :: .int sp :: .ref (ad a) :: st.map (x_tr ad))) rfl (by show ls.size = _; exact (hml.trans hl0.1.1.symm).symm) (rest := st.map (x_tr ad)) rfl (by rw [hb]; exact d1) hf (by
      have h18 : nativeFrameWords "java/lang/System" "arraycopy" 5 = 7 := by decide +kernel
      show 2 * 0 + ((st.map (x_tr ad)).map fun v => v.category).sum + _ ≤ 100 * d
      rw [x_cat_sum, h18]
      omega)
  have ec : copied (arrV (G.2.2.2.2.1 ty) n0 (fun j => .int (f j))) (arrV (G.2.2.2.2.1 ty) n1 (fun j => .int (g j))) sp dp n = arrV (G.2.2.2.2.1 ty) n1 (fun j => .int (va_cpy f g sp.toNatClampNeg dp.toNatClampNeg n.toNatClampNeg j)) := va_copied (fun z => .int z) _ _ f g h4
  rw [ec] at X' step
  have hlt : ad b < H.size := (Array.getElem?_eq_some_iff.mp hc1).1
  generalize hcn : arrV (G.2.2.2.2.1 ty) n1 (fun j => Value.int (va_cpy f g sp.toNatClampNeg dp.toNatClampNeg n.toNatClampNeg j)) = cn at X' step
  have hheap : ((T.setVm vm').setCell (ad b) cn).heap = H.setIfInBounds (ad b) cn := by rw [← hT]; rfl
  have oq : ∀ q : Nat, q ≠ ad b → (H.setIfInBounds (ad b) cn)[q]? = H[q]? := fun q hq => by simp [Array.getElem?_setIfInBounds, Ne.symm hq]
  obtain ⟨t, a1, b1⟩ := kk p e s m args below meth c ad nb (H.setIfInBounds (ad b) cn) _ ls B
    (x_R_put hR ho hN1 (c' := .inr (true, ty, n1, fun j => .int (va_cpy f g sp.toNatClampNeg dp.toNatClampNeg n.toNatClampNeg j))) (fun j hj => trivial) ⟨g3, g4, by show (H.setIfInBounds (ad b) cn)[ad b]? = _; rw [show (H.setIfInBounds (ad b) cn)[ad b]? = some cn by simp [Array.getElem?_setIfInBounds, hlt], ← hcn]; rfl⟩ oq) hnb he
    ⟨by simp; exact hS.1, fun q q1 q2 => by
      rw [oq q (fun e => q2 (by rw [e]; exact hA))]
      exact hS.2.1 q q1 q2, fun q hq => by
      rcases List.mem_append.mp hq with h | h
      · exact hS.2.2 q h
      · obtain ⟨z, -, hz⟩ := List.mem_map.mp h
        rw [← hz]
        exact hA⟩ hl0 (List.forall_mem_cons.mp (List.forall_mem_cons.mp (List.forall_mem_cons.mp (List.forall_mem_cons.mp (List.forall_mem_cons.mp hvs).2).2).2).2).2 _ hheap X'
  exact ⟨t, step t a1, b1⟩
end XRC
