/-! ===== conditions: the comparisons that a plan may use ===== -/
/-- a list's names, and l behind them -/
def y_ap (p : Nat → Nat) (n : Nat) (l : List Nat) : Nat → Nat := fun j => if j < n then p j else (l[j - n]?).getD 0
theorem y_ap_ap {p : Nat → Nat} {n : Nat} {l1 l2 : List Nat} : y_ap (y_ap p n l1) (n + l1.length) l2 = y_ap p n (l1 ++ l2) := by
  funext j
  unfold y_ap
  by_cases h : j < n
  · rw [if_pos (by omega), if_pos h, if_pos h]
  · rw [if_neg h]
    by_cases h1 : j < n + l1.length
    · rw [if_pos h1, if_neg h, List.getElem?_append, if_pos (by omega)]
    · rw [if_neg h1, if_neg h, List.getElem?_append, if_neg (show ¬ j - n < l1.length by omega), Nat.sub_sub]
theorem y_lb_cong {B : XH} {a el n : Nat} {m : Int32} {p p' : Nat → Nat} (h : y_lb B a m el n p) (hc : ∀ j, j < n → p j = p' j) : y_lb B a m el n p' := by
  obtain ⟨h1, h2, h3⟩ := h
  refine ⟨h1, h2, ?_⟩
  rcases h3 with g | ⟨cap, f, g1, g2, g3, g4, g5⟩
  · exact Or.inl g
  · exact Or.inr ⟨cap, f, g1, g2, g3, g4, fun j hj => by rw [← hc j hj]; exact g5 j hj⟩
def y_gt (n : Nat) : Nat → Nat
  | 0 => 0
  | L + 1 => y_gt n L + y_gs (n + L)
theorem y_gt_add {n a : Nat} : ∀ b, y_gt n (a + b) = y_gt n a + y_gt (n + a) b
  | 0 => rfl
  | b + 1 => by
    show y_gt n (a + b) + y_gs (n + (a + b)) = y_gt n a + (y_gt (n + a) b + y_gs (n + a + b))
    rw [y_gt_add b, Nat.add_assoc n a b]
    omega
theorem y_gt_le : ∀ L, y_gt 0 L ≤ 10 + L * L
  | 0 => Nat.zero_le _
  | 1 => by decide
  | L + 2 => by
    have h := y_gt_le (L + 1)
    have e : (L + 2) * (L + 2) = (L + 1) * (L + 1) + (2 * L + 3) := by
      rw [show L + 2 = (L + 1) + 1 by omega, Nat.mul_add, Nat.add_mul]
      omega
    have g : y_gs (0 + (L + 1)) ≤ 2 * L + 3 := by
      unfold y_gs
      rw [if_neg (by omega)]
      omega
    show y_gt 0 (L + 1) + y_gs (0 + (L + 1)) ≤ _
    rw [e]
    omega
/-- what is left: the list has got l -/
def x_QS (RFB : XH → XH) (B : XH) (ρ : Nat → Nat) (a el n : Nat) (p : Nat → Nat) (l : List Nat) : XH → Option Value → Prop := fun N r => ∃ B' el' m', y_lb B' a m' el' (n + l.length) (y_ap p n l) ∧ y_ds ρ B' ∧ (B' 0 = none ∧ B' 2 = none) ∧ y_kp B B' a el ∧ (el' = el ∨ B el' = none) ∧ N = RFB B' ∧ r = none
theorem y_kp_tr {B B1 B2 : XH} {a el el1 el2 : Nat} (ha : ∃ c, B1 a = some c) (h1 : y_kp B B1 a el) (h2 : y_kp B1 B2 a el1) (e1 : el1 = el ∨ B el1 = none) (e2 : el2 = el1 ∨ B1 el2 = none) : y_kp B B2 a el ∧ (el2 = el ∨ B el2 = none) := by
  refine ⟨fun k c k1 k2 hk => h2 k c k1 (fun e => ?_) (h1 k c k1 k2 hk), ?_⟩
  · rcases e1 with g | g
    · exact k2 (e.trans g)
    · rw [e, g] at hk; cases hk
  · rcases e2 with g | g
    · rw [g]; exact e1
    · by_cases e : el2 = el
      · exact Or.inl e
      · refine Or.inr ?_
        cases hB : B el2 with
        | none => rfl
        | some c =>
          have hne : el2 ≠ a := fun q => by obtain ⟨c', hc⟩ := ha; rw [← q, g] at hc; cases hc
          have := h1 el2 c hne e hB
          rw [g] at this; cases this
theorem y_kp_rfl {B : XH} {a el : Nat} : y_kp B B a el := fun _ _ _ _ h => h
/-- the condition adds its comparisons -/
def x_PS (G : XE) (J bf K tk ts : Nat → Int32) (tl : Int64) (tv : Nat → Int64) (su : Nat → Nat) (D : Nat → Nat → Int32) (ρ : Nat → Nat) (i : Nat) (er ea : Int32) (sv ty hv : Nat → Int32) (nm : Nat → Int64) (d W : Nat) : Prop := ∀ (B F : XH) (o a el n : Nat) (m : Int32) (p : Nat → Nat) (l : List Nat), y_ds ρ B → (B 0 = none ∧ B 2 = none) → y_lb B a m el n p → y_le F B → F a = none → F el = none → t_sg F W o l → n + l.length ≤ 2000 → (∀ V, B o = some (.inl (1, V)) → x_M G mX0_addSargable (d + W + 7) l.length (y_gt n l.length) [.ref o, .ref a] (cset (rset B ρ i er ea sv nm ty hv) J bf K tk ts tl tv su D) (x_QS (fun B => cset (rset B ρ i er ea sv nm ty hv) J bf K tk ts tl tv su D) B ρ a el n p l) x_noX) ∧ (∀ V, B o = some (.inl (2, V)) → x_M G mX1_addSargable (d + W + 7) l.length (y_gt n l.length) [.ref o, .ref a] (cset (rset B ρ i er ea sv nm ty hv) J bf K tk ts tl tv su D) (x_QS (fun B => cset (rset B ρ i er ea sv nm ty hv) J bf K tk ts tl tv su D) B ρ a el n p l) x_noX)
theorem t_sg.two {F : XH} {W o : Nat} {l : List Nat} (h : t_sg F W o l) : (∃ V, F o = some (.inl (1, V)) ∧ s_out o) ∨ ∃ V, F o = some (.inl (2, V)) ∧ s_out o := by
  cases W with
  | zero => exact h.elim
  | succ W =>
    rcases h with ⟨x1, x2, x3, x4, h1, h2, h3⟩ | ⟨kd, a9, n9, p9, ls, h1, h2, h3, h4, h5⟩
    · exact Or.inl ⟨_, h2, h1⟩
    · exact Or.inr ⟨_, h2, h1⟩
theorem y_cat_len {ls : Nat → List Nat} {j : Nat} : ∀ {n : Nat}, j ≤ n → (y_cat ls j).length ≤ (y_cat ls n).length
  | 0, h => by
    obtain rfl : j = 0 := by omega
    exact Nat.le_refl _
  | n + 1, h => by
    by_cases e : j = n + 1
    · rw [e]; exact Nat.le_refl _
    · have := y_cat_len (ls := ls) (show j ≤ n by omega)
      show _ ≤ (y_cat ls n ++ ls n).length
      rw [List.length_append]
      omega
theorem y_gt_mono {n a b : Nat} (h : a ≤ b) : y_gt n a ≤ y_gt n b := by
  obtain ⟨c, rfl⟩ : ∃ c, b = a + c := ⟨b - a, by omega⟩
  rw [y_gt_add]
  omega
theorem w_sgs {G : XE} (hG : x_Kn G) (hK : x_KS G) (hM : x_KM G) {J bf K tk ts : Nat → Int32} {tl : Int64} {tv : Nat → Int64} {su : Nat → Nat} {D : Nat → Nat → Int32} {ρ : Nat → Nat} {i : Nat} {er ea : Int32} {sv ty hv : Nat → Int32} {nm : Nat → Int64} {d : Nat} : ∀ W, x_PS G J bf K tk ts tl tv su D ρ i er ea sv ty hv nm d W := by
  intro W
  induction W with
  | zero => intro B F o a el n m p l _ _ _ _ _ _ h; exact h.elim
  | succ W ih =>
    intro B F o a el n m p l hρ hX hl hF hFa hFe hsg hn
    refine ⟨fun V hV => ?_, fun V hV => ?_⟩
    · rcases hsg with ⟨x1, x2, x3, x4, h1, h2, h3⟩ | ⟨kd, a9, n9, p9, ls, h1, h2, h3, h4, h5⟩
      · have hB := hF _ _ h2
        refine X_M hG okX0_addSargable rfl (L := [some (.ref o), some (.ref a)]) rfl (Nat.le_of_ble_eq_true rfl) (fun ad0 nb0 => ?_)
        refine X_ld rfl rfl rfl rfl ?_
        refine X_get f_X0_19 rfl (rc_B hρ h1 hB) rfl ?_
        refine X_push (v := .int 1) rfl (by decide +kernel) ?_
        refine X_icmp_eq rfl (fun c5 => ?_) (fun c5 => ?_)
        · have e : l = [] := h3.trans (if_pos c5)
          subst e
          exact X_vret rfl rfl ⟨B, el, m, y_lb_cong hl (fun j hj => (if_pos hj).symm), hρ, hX, y_kp_rfl, Or.inl rfl, rfl, rfl⟩ (Nat.le_of_ble_eq_true rfl) (Nat.le_of_ble_eq_true rfl)
        · have e : l = [o] := h3.trans (if_neg c5)
          subst e
          refine X_ld rfl rfl rfl rfl ?_
          refine X_ld rfl rfl rfl rfl ?_
          refine X_vcallP (rc_B hρ hl.1 hl.2.1) l_X0_Jx4a65c_add_9ea2d (j_add hG hK hM d (y_none2 hρ hX.1) (y_lb.s hρ hl) (y_ob_c hρ h1 ⟨1, _, _, _, _, hB, rfl, List.mem_of_getElem? (i := 1491) (by decide +kernel)⟩) (by omega)) rfl rfl rfl rfl (Nat.le_of_ble_eq_true rfl) (Nat.le_of_ble_eq_true rfl) (by omega) (by show _ + 1 ≤ 1; omega) (by show _ + y_gs n ≤ 0 + y_gs (n + 0); rw [Nat.add_zero]; omega) (fun N9 r9 hq9 => ?_)
          obtain ⟨hA9, rfl⟩ := hq9
          obtain ⟨B3, el3, rfl, b1, b2, b3, b4, b5, b6, -⟩ := y_addB hρ hX.1 hX.2 hl h1 ⟨1, _, _, _, _, hB, rfl, List.mem_of_getElem? (i := 1491) (by decide +kernel)⟩ hA9
          clear hA9
          refine X_stk (st' := [.int 1]) rfl ?_
          refine X_pop rfl rfl ?_
          refine X_vret rfl rfl ⟨B3, el3, _, y_lb_cong b1 (fun j hj => ?_), b2, b3, b4, b5.elim (fun q => Or.inl q.1) Or.inr, rfl, rfl⟩ (by show _ + 1 ≤ 1; omega) (by show _ + y_gs n ≤ 0 + y_gs (n + 0); rw [Nat.add_zero]; omega)
          change j < n + 1 at hj
          unfold updF y_ap
          by_cases e : j = n
          · subst e; rw [if_pos rfl, if_neg (by omega), Nat.sub_self]; rfl
          · rw [if_neg e, if_pos (by omega)]
      · rw [hF _ _ h2] at hV
        cases hV
    · rcases hsg with ⟨x1, x2, x3, x4, h1, h2, h3⟩ | ⟨kd, a9, n9, p9, ls, h1, h2, h3, h4, h5⟩
      · rw [hF _ _ h2] at hV
        cases hV
      · have hB := hF _ _ h2
        have hna : o ≠ a := fun e => by rw [e, hl.2.1] at hB; cases hB
        have hne : o ≠ el := fun e => y_lb_el hX.2 hl _ (by rw [← e]; exact hB)
        have hn9 : n9 < 2147483648 := h3.2.1
        refine X_M hG okX1_addSargable rfl (L := [some (.ref o), some (.ref a), none, none]) rfl (Nat.le_of_ble_eq_true rfl) (fun ad0 nb0 => ?_)
        have K0 : l = [] → x_W G mX1_addSargable (x_Z G (d + (W + 1) + 7) l.length (y_gt n l.length) ad0 nb0 (x_QS (fun B => cset (rset B ρ i er ea sv nm ty hv) J bf K tk ts tl tv su D) B ρ a el n p l) x_noX) (cset (rset B ρ i er ea sv nm ty hv) J bf K tk ts tl tv su D) 0 0 34 [some (.ref o), some (.ref a), some (.int 0), some (.int (nI 0))] [] := by
          intro e
          subst e
          refine X_ld rfl rfl rfl rfl ?_
          refine X_if_eq rfl (fun c35 => ?_) (fun c35 => absurd rfl c35)
          exact X_vret rfl rfl ⟨B, el, m, y_lb_cong hl (fun j hj => (if_pos hj).symm), hρ, hX, y_kp_rfl, Or.inl rfl, rfl, rfl⟩ (Nat.le_of_ble_eq_true rfl) (Nat.le_of_ble_eq_true rfl)
        have K1 : l = y_cat ls n9 → ∀ f j, j + f = n9 → ∀ (B1 : XH) (el1 : Nat) (m1 : Int32), y_lb B1 a m1 el1 (n + (y_cat ls j).length) (y_ap p n (y_cat ls j)) → y_ds ρ B1 → (B1 0 = none ∧ B1 2 = none) → y_kp B B1 a el → (el1 = el ∨ B el1 = none) → x_W G mX1_addSargable (x_Z G (d + (W + 1) + 7) l.length (y_gt n l.length) ad0 nb0 (x_QS (fun B => cset (rset B ρ i er ea sv nm ty hv) J bf K tk ts tl tv su D) B ρ a el n p l) x_noX) (cset (rset B1 ρ i er ea sv nm ty hv) J bf K tk ts tl tv su D) ((y_cat ls j).length) (y_gt n (y_cat ls j).length) 34 [some (.ref o), some (.ref a), some (.int 1), some (.int (nI j))] [] := by
          intro e f
          induction f with
          | zero =>
            intro j hj B1 el1 m1 q1 q2 q3 q4 q5
            have hl1 := y_cat_len (ls := ls) (show j ≤ n9 by omega)
            rw [← e] at hl1
            have hgm := y_gt_mono (n := n) hl1
            have hF1 : y_le F B1 := fun k c hk => q4 k c (fun e => by rw [e, hFa] at hk; cases hk) (fun e => by rw [e, hFe] at hk; cases hk) (hF k c hk)
            have hB1 := q4 _ _ hna hne hB
            refine X_ld rfl rfl rfl rfl ?_
            refine X_if_eq rfl (fun c35 => absurd c35 (by decide)) (fun c35 => ?_)
            refine X_ld rfl rfl rfl rfl ?_
            refine X_ld rfl rfl rfl rfl ?_
            refine X_get f_X1_10 rfl (rc_B q2 h1 hB1) rfl ?_
            obtain ⟨VL, hNl⟩ := l_at_N (J := J) (bf := bf) (K := K) (tk := tk) (ts := ts) (tl := tl) (tv := tv) (su := su) (D := D) (y_le.l (fun k c hk => rs_B (i := i) (er := er) (ea := ea) (sv := sv) (nm := nm) (ty := ty) (hv := hv) q2 hk) (y_le.l hF1 h3))
            refine X_vcall hNl l_X1_Jx4a65c_size_8abf5 (j_size hG d (l_at_li (y_le.l (fun k c hk => rs_B q2 hk) (y_le.l hF1 h3)))) rfl rfl rfl rfl (Nat.le_of_ble_eq_true rfl) (Nat.le_of_ble_eq_true rfl) (by omega) (by omega) (by omega) ?_
            obtain rfl : j = n9 := by omega
            refine X_icmp_ge rfl (fun c46 => ?_) (fun c46 => absurd ((n_le rfl rfl (by omega) (by omega)).mpr (Nat.le_refl j)) c46)
            subst e
            exact X_vret rfl rfl ⟨B1, el1, m1, q1, q2, q3, q4, q5, rfl, rfl⟩ (Nat.le_refl _) (Nat.le_refl _)
          | succ f ih2 =>
            intro j hj B1 el1 m1 q1 q2 q3 q4 q5
            have hl1 := y_cat_len (ls := ls) (show j ≤ n9 by omega)
            rw [← e] at hl1
            have hgm := y_gt_mono (n := n) hl1
            have hF1 : y_le F B1 := fun k c hk => q4 k c (fun e => by rw [e, hFa] at hk; cases hk) (fun e => by rw [e, hFe] at hk; cases hk) (hF k c hk)
            have hB1 := q4 _ _ hna hne hB
            refine X_ld rfl rfl rfl rfl ?_
            refine X_if_eq rfl (fun c35 => absurd c35 (by decide)) (fun c35 => ?_)
            refine X_ld rfl rfl rfl rfl ?_
            refine X_ld rfl rfl rfl rfl ?_
            refine X_get f_X1_10 rfl (rc_B q2 h1 hB1) rfl ?_
            obtain ⟨VL, hNl⟩ := l_at_N (J := J) (bf := bf) (K := K) (tk := tk) (ts := ts) (tl := tl) (tv := tv) (su := su) (D := D) (y_le.l (fun k c hk => rs_B (i := i) (er := er) (ea := ea) (sv := sv) (nm := nm) (ty := ty) (hv := hv) q2 hk) (y_le.l hF1 h3))
            refine X_vcall hNl l_X1_Jx4a65c_size_8abf5 (j_size hG d (l_at_li (y_le.l (fun k c hk => rs_B q2 hk) (y_le.l hF1 h3)))) rfl rfl rfl rfl (Nat.le_of_ble_eq_true rfl) (Nat.le_of_ble_eq_true rfl) (by omega) (by omega) (by omega) ?_
            refine X_icmp_ge rfl (fun c46 => absurd ((n_le rfl rfl (by omega) (by omega)).mp c46) (by omega)) (fun c46 => ?_)
            refine X_ld rfl rfl rfl rfl ?_
            refine X_get f_X1_10 rfl (rc_B q2 h1 hB1) rfl ?_
            refine X_ld rfl rfl rfl rfl ?_
            refine X_vcall hNl l_X1_Jx4a65c_get_915e3 (j_get hG d (l_at_li (y_le.l (fun k c hk => rs_B q2 hk) (y_le.l hF1 h3))) j (by omega) rfl) rfl rfl rfl rfl (Nat.le_of_ble_eq_true rfl) (Nat.le_of_ble_eq_true rfl) (by omega) (by omega) (by omega) ?_
            have hsj := h4 j (by omega)
            have hF1e : F el1 = none := by
              rcases q5 with g | g
              · rw [g]; exact hFe
              · exact y_le_no hF g
            have hlen : (y_cat ls j).length + (ls j).length ≤ l.length := by
              have h := y_cat_len (ls := ls) (show j + 1 ≤ n9 by omega)
              rw [← e] at h
              show _ ≤ _
              rw [← List.length_append]
              exact h
            have hgt := y_gt_mono (n := n) hlen
            have hadd := y_gt_add (n := n) (a := (y_cat ls j).length) (ls j).length
            obtain ⟨s1, s2⟩ := ih B1 F (p9 j) a el1 (n + (y_cat ls j).length) m1 (y_ap p n (y_cat ls j)) (ls j) q2 q3 q1 hF1 hFa hF1e hsj (by omega)
            have step : ∀ (N9 : XH) (r9 : Option Value), (x_QS (fun B => cset (rset B ρ i er ea sv nm ty hv) J bf K tk ts tl tv su D) B1 ρ a el1 (n + (y_cat ls j).length) (y_ap p n (y_cat ls j)) (ls j)) N9 r9 → x_W G mX1_addSargable (x_Z G (d + (W + 1) + 7) l.length (y_gt n l.length) ad0 nb0 (x_QS (fun B => cset (rset B ρ i er ea sv nm ty hv) J bf K tk ts tl tv su D) B ρ a el n p l) x_noX) N9 ((y_cat ls j).length + 0 + 0 + (ls j).length) (y_gt n (y_cat ls j).length + 0 + 0 + y_gt (n + (y_cat ls j).length) (ls j).length) 64 [some (.ref o), some (.ref a), some (.int 1), some (.int (nI j))] (r9.toList ++ []) := by
              rintro N9 r9 ⟨B2, el2, m2, t1, t2, t3, t4, t5, rfl, rfl⟩
              refine X_stk (st' := []) rfl ?_
              refine X_iinc rfl rfl rfl ?_
              refine X_goto rfl ?_
              refine X_loc (L' := [some (.ref o), some (.ref a), some (.int 1), some (.int (nI (j + 1)))]) ⟨rfl, rfl, rfl, congrArg Value.int (m_inc rfl).symm, trivial⟩ ?_
              rw [y_ap_ap, Nat.add_assoc, ← List.length_append] at t1
              obtain ⟨u1, u2⟩ := y_kp_tr ⟨_, q1.2.1⟩ q4 t4 q5 t5
              refine X_room (cells' := (y_cat ls (j + 1)).length) (slots' := y_gt n (y_cat ls (j + 1)).length) (by show _ ≤ (y_cat ls j ++ ls j).length; rw [List.length_append]; omega) (by show _ ≤ y_gt n (y_cat ls j ++ ls j).length; rw [List.length_append]; omega) ?_
              exact ih2 (j + 1) (by omega) B2 el2 m2 t1 t2 t3 u1 u2
            rcases t_sg.two hsj with ⟨V9, h9, ho9⟩ | ⟨V9, h9, ho9⟩
            · have h9B := hF1 _ _ h9
              refine X_castY cl_X1_2 ca_X0 rfl (rc_B q2 ho9 h9B) rfl ?_
              refine X_ld rfl rfl rfl rfl ?_
              refine X_callU (o := p9 j) lu_X1_X0_addSargable (s1 V9 h9B) rfl rfl (rc_B q2 ho9 h9B) rfl rfl (Nat.le_of_ble_eq_true rfl) (x_fit_of (Nat.le_of_ble_eq_true rfl) (by omega) (by omega) (by omega)) (fun N9 r9 h => ?_)
              exact step N9 r9 h
            · have h9B := hF1 _ _ h9
              refine X_castY cl_X1_2 ca_X1 rfl (rc_B q2 ho9 h9B) rfl ?_
              refine X_ld rfl rfl rfl rfl ?_
              refine X_callU (o := p9 j) lu_X1_X1_addSargable (s2 V9 h9B) rfl rfl (rc_B q2 ho9 h9B) rfl rfl (Nat.le_of_ble_eq_true rfl) (x_fit_of (Nat.le_of_ble_eq_true rfl) (by omega) (by omega) (by omega)) (fun N9 r9 h => ?_)
              exact step N9 r9 h
        have K1s : l = y_cat ls n9 → x_W G mX1_addSargable (x_Z G (d + (W + 1) + 7) l.length (y_gt n l.length) ad0 nb0 (x_QS (fun B => cset (rset B ρ i er ea sv nm ty hv) J bf K tk ts tl tv su D) B ρ a el n p l) x_noX) (cset (rset B ρ i er ea sv nm ty hv) J bf K tk ts tl tv su D) 0 0 34 [some (.ref o), some (.ref a), some (.int 1), some (.int (nI 0))] [] := fun e => K1 e n9 0 (Nat.zero_add _) B el m (y_lb_cong hl (fun j hj => (if_pos hj).symm)) hρ hX y_kp_rfl (Or.inl rfl)
        refine X_ld rfl rfl rfl rfl ?_
        refine X_get f_X1_16 rfl (rc_B hρ h1 hB) rfl ?_
        refine X_if_eq rfl (fun c4 => ?_) (fun c4 => ?_)
        · refine X_push (v := .int 1) rfl (by decide +kernel) ?_
          refine X_goto rfl ?_
          refine X_st rfl rfl rfl ?_
          refine X_push (v := .int 0) rfl (by decide +kernel) ?_
          refine X_st rfl rfl rfl ?_
          exact K1s (h5.trans (if_pos (Or.inl c4)))
        · refine X_ld rfl rfl rfl rfl ?_
          refine X_get f_X1_16 rfl (rc_B hρ h1 hB) rfl ?_
          refine X_push (v := .int 1) rfl (by decide +kernel) ?_
          refine X_icmp_ne rfl (fun c12 => ?_) (fun c12 => ?_)
          · refine X_push (v := .int 0) rfl (by decide +kernel) ?_
            refine X_st rfl rfl rfl ?_
            refine X_push (v := .int 0) rfl (by decide +kernel) ?_
            refine X_st rfl rfl rfl ?_
            exact K0 (h5.trans (if_neg (fun q => q.elim c4 (fun q => c12 q.1))))
          · refine X_ld rfl rfl rfl rfl ?_
            refine X_get f_X1_10 rfl (rc_B hρ h1 hB) rfl ?_
            obtain ⟨VL, hNl⟩ := l_at_N (J := J) (bf := bf) (K := K) (tk := tk) (ts := ts) (tl := tl) (tv := tv) (su := su) (D := D) (y_le.l (fun k c hk => rs_B (i := i) (er := er) (ea := ea) (sv := sv) (nm := nm) (ty := ty) (hv := hv) hρ hk) (y_le.l hF h3))
            refine X_vcall hNl l_X1_Jx4a65c_size_8abf5 (j_size hG d (l_at_li (y_le.l (fun k c hk => rs_B hρ hk) (y_le.l hF h3)))) rfl rfl rfl rfl (Nat.le_of_ble_eq_true rfl) (Nat.le_of_ble_eq_true rfl) (by omega) (by omega) (by omega) ?_
            refine X_push (v := .int 1) rfl (by decide +kernel) ?_
            refine X_icmp_ne rfl (fun c23 => ?_) (fun c23 => ?_)
            · refine X_push (v := .int 0) rfl (by decide +kernel) ?_
              refine X_st rfl rfl rfl ?_
              refine X_push (v := .int 0) rfl (by decide +kernel) ?_
              refine X_st rfl rfl rfl ?_
              exact K0 (h5.trans (if_neg (fun q => q.elim c4 (fun q => c23 (by rw [q.2]; rfl)))))
            · refine X_push (v := .int 1) rfl (by decide +kernel) ?_
              refine X_goto rfl ?_
              refine X_st rfl rfl rfl ?_
              refine X_push (v := .int 0) rfl (by decide +kernel) ?_
              refine X_st rfl rfl rfl ?_
              exact K1s (h5.trans (if_pos (Or.inr ⟨c12, (nI_eq (by omega) (by omega)).mp (c23.trans (show (1 : Int32) = nI 1 from rfl))⟩)))

