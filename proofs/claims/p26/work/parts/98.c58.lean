/-! ===== the class's reader: factors ===== -/
theorem w_nested {G : XE} (hG : x_Kn G) (hK : x_KS G) (hM : x_KM G) {J bf tk ts : Nat → Int32} {tv : Nat → Int64} {su : Nat → Nat} {D : Nat → Nat → Int32} {ρ : Nat → Nat} {i : Nat} {ea : Int32} {sv ty : Nat → Int32} {nm : Nat → Int64} {tx : Nat → Int32} {n c m w d r : Nat} (hr : s_rtx tx bf n) (hn8 : n ≤ 800) (hsp : z_split bf tx n tk ts tv c) (hw6 : w < 6) (hrec : ∀ r', r = r' + 1 → x_PF G J bf tk ts tv su D ρ i ea sv ty nm tx n c m w d (r') ∧ x_PC G J bf tk ts tv su D ρ i ea sv ty nm tx n c m w d (r')) {B : XH} {K hv rd : Nat → Int32} {tl : Int64} {p k f h : Nat} {z : Bool} (hh6 : h + r = 6) (hρ : y_ds ρ B) (hX : B 0 = none ∧ B 2 = none) (hat : z_at tx bf n c K tl p) (hcol : y_col rd sv ty nm m) (hrd : rd 0 = nI m ∧ rd 9 = nI k ∧ 5 * k ≤ 2 * p) (hhv : ∀ h, h < 4 → hv h = rd (275 + 30 * w + (17 + h))) (hf : 8 * (n - p) + 1 ≤ f) (hno : l_isw tx n p (x_w 4) = true ∨ l_see tx n p = 40) : x_M G mX6_readNested (d + 3 * r + 7) (8 * (l_en n (l_prs tx n m w f 0 z h 0 p rd) - p) + 8) (160 * (l_en n (l_prs tx n m w f 0 z h 0 p rd) - p) + 4) [.ref (ρ 0), .int (nI h)] (cset (rset B ρ i 0 ea sv nm ty hv) J bf K tk ts tl tv su D) (x_QF tx bf n c w p (fun er ea K tl hv B => cset (rset B ρ i er ea sv nm ty hv) J bf K tk ts tl tv su D) ea B ρ (1 + 2 * r) k rd z (l_prs tx n m w f 0 z h 0 p rd)) x_noX := by
  refine X_M hG okX6_readNested rfl (L := [some (.ref (ρ 0)), some (.int (nI h)), none, none, none]) rfl (Nat.le_of_ble_eq_true rfl) (fun ad0 nb0 => ?_)
  obtain ⟨f', rfl⟩ : ∃ f', f = f' + 1 := ⟨f - 1, by omega⟩
  obtain ⟨hp, j, hj, hz, h3, h4, h5, h6, htl⟩ := id hat
  have hm5 := hcol.1
  have hg0 : y_gs 0 = 10 := rfl
  have hnk : n_ (rd 9) = k := by rw [hrd.2.1]; exact n_nI (by omega)
  have hsl := l_sk_le (tx := tx) hp
  have hwl := l_we_le (tx := tx) hp
  have hlt : l_sk tx n p < n := by
    rcases hno with q | q
    · have h2 : l_we tx n p = l_sk tx n p + 3 := l_isw_we q
      omega
    · exact l_see_lt (by rw [q]; decide)
  have hR0 := l_prs_0 (tx := tx) (n := n) (m := m) (w := w) (f := f') (z := z) (h := h) (fr := 0) (p := p) (rd := rd)
  have hen : p + 1 ≤ l_en n (l_prs tx n m w (f' + 1) 0 z h 0 p rd) := by
    cases hRR : l_prs tx n m w (f' + 1) 0 z h 0 p rd with
    | inl e => show p + 1 ≤ n; omega
    | inr x =>
      obtain ⟨g1, g2, kk, g3, g4, g5⟩ := l_prs_ok hn8 (by omega) _ _ _ _ _ _ k _ _ _ hp hrd.2.1 hrd.2.2 hRR
      change 5 * kk + 2 * p + 1 ≤ 5 * k + 2 * x.1 at g5
      show p + 1 ≤ x.1
      omega
  generalize l_prs tx n m w (f' + 1) 0 z h 0 p rd = R at hR0 hen ⊢
  refine X_newK n_X6_210 rfl (by show _ + 1 ≤ _; first | omega | exact Nat.le_of_ble_eq_true rfl) (by show _ + 2 ≤ _; first | omega | exact Nat.le_of_ble_eq_true rfl) (x_K_any (y_none2 hρ hX.1) (fun o hq9 h64a => ?_))
  refine X_dup rfl rfl ?_
  refine X_push (v := .int 2) rfl (by decide +kernel) ?_
  refine X_icallP l_X6_X1_init (p_X1init hG hK hM d ((x_set_ne (by omega)).trans (y_none2 hρ hX.1)) x_set_eq) rfl rfl rfl (Nat.le_of_ble_eq_true rfl) (Nat.le_of_ble_eq_true rfl) (by omega) (by omega) (by omega) (fun N1 r9 hq8 => ?_)
  obtain ⟨la, hl9, h649a, rfl, rfl⟩ := hq8
  obtain ⟨⟨n1a, n2a, n3a⟩, ⟨o1a, o2a, o3a⟩, hnea, hcs2⟩ := y_newC (c1 := .inl (0, lV 0 2 0)) (c2 := .inl (2, cpV 2 la)) hq9 hl9
  refine X_heap hcs2 ?_
  clear hcs2 hq9 hl9
  refine X_stk (st' := [.ref o]) rfl ?_
  refine X_st rfl rfl rfl ?_
  have hρ1 : y_ds ρ (x_set (x_set B la (.inl (0, lV 0 2 0))) o (.inl (2, cpV 2 la))) := (hρ.set o3a).set n3a
  have hX1 : (x_set (x_set B la (.inl (0, lV 0 2 0))) o (.inl (2, cpV 2 la))) 0 = none ∧ (x_set (x_set B la (.inl (0, lV 0 2 0))) o (.inl (2, cpV 2 la))) 2 = none := ⟨by rw [x_set_ne (by omega), x_set_ne (by omega)]; exact hX.1, by rw [x_set_ne (by omega), x_set_ne (by omega)]; exact hX.2⟩
  have hle1 : y_le B (x_set (x_set B la (.inl (0, lV 0 2 0))) o (.inl (2, cpV 2 la))) := y_le.trans (y_le_set o2a) (y_le_set (by rw [x_set_ne (Ne.symm hnea)]; exact n2a))
  have hla : (x_set (x_set B la (.inl (0, lV 0 2 0))) o (.inl (2, cpV 2 la))) la = some (.inl (0, lV 0 2 0)) := by rw [x_set_ne hnea]; exact x_set_eq
  have ho1 : (x_set (x_set B la (.inl (0, lV 0 2 0))) o (.inl (2, cpV 2 la))) o = some (.inl (2, cpV 2 la)) := x_set_eq
  have hlb : y_lb (x_set (x_set B la (.inl (0, lV 0 2 0))) o (.inl (2, cpV 2 la))) la 0 2 0 (fun _ => 0) := ⟨o1a, hla, Or.inl ⟨rfl, rfl⟩⟩
  refine X_ld rfl rfl rfl rfl ?_
  refine X_push (v := .int 6) rfl (by decide +kernel) ?_
  refine X_icmp_lt rfl (fun c12 => ?_) (fun c12 => ?_)
  · have hh : h < 6 := (n_lt rfl (show (6 : Int32) = nI 6 from rfl) (by omega) (by omega)).mp c12
    obtain ⟨r', rfl⟩ : ∃ r', r = r' + 1 := ⟨r - 1, by omega⟩
    obtain ⟨hPF, hPC⟩ := hrec r' rfl
    refine X_ld rfl rfl rfl rfl ?_
    refine X_get f_X6_26 rfl (c_B (hρ.o 0 (by decide)) rs_r) rfl ?_
    refine X_get f_X6_85 rfl c_T (v := .int (z_tk bf tx n (l_sk tx n p))) (congrArg Value.int h5) ?_
    refine X_push (v := .int 260) rfl (by decide +kernel) ?_
    refine X_icmp_ne rfl (fun c40 => ?_) (fun c40 => ?_)
    · have hnn : ¬ l_isw tx n p (x_w 4) = true := fun q => c40 ((z_not hr hp).mpr q)
      have h40 := hno.resolve_left hnn
      have hse := z_sign_e hr hp (z_sg 40 (by decide)).1 (z_sg 40 (by decide)).2.1 (z_sg 40 (by decide)).2.2 h40
      have hR1 : R = l_bi (l_prs tx n m w f' 3 z (h + 1) 0 (l_sk tx n p + 1) rd) (fun x => if l_see tx n x.1 = 41 then .inr (l_sk tx n x.1 + 1, x.2) else .inl (-2, l_sk tx n x.1)) := hR0.trans ((if_neg hnn).trans ((if_pos h40).trans (if_neg (by omega))))
      refine X_push (v := .int 0) rfl (by decide +kernel) ?_
      refine X_st rfl rfl rfl ?_
      refine X_ld rfl rfl rfl rfl ?_
      refine X_get f_X6_26 rfl (c_B (hρ.o 0 (by decide)) rs_r) rfl ?_
      refine X_vcallv c_T l_X6_X8_advance (p_advance hG d h3 h4 (by have := hsp.1.2; omega) (by have := hsp.1.2; omega)) rfl rfl rfl rfl (Nat.le_of_ble_eq_true rfl) (Nat.le_of_ble_eq_true rfl) (by omega) (by omega) (by omega) ?_
      have hA := z_adv (tk := tk) (ts := ts) (tv := tv) (tl := tl) hsp hp hj hz h3 hse.2
      rw [hse.1] at hA
      clear htl
      generalize y_adK K tk ts c (j + 1) = K1 at hA ⊢
      generalize y_adl tl tv c (j + 1) = tl1 at hA ⊢
      generalize hp1e : l_sk tx n p + 1 = p1 at hA hR1
      refine X_ld rfl rfl rfl rfl ?_
      refine X_if_eq rfl (fun c57 => ?_) (fun c57 => absurd rfl c57)
      refine X_ld rfl rfl rfl rfl ?_
      refine X_ld rfl rfl rfl rfl ?_
      refine X_push (v := .int 1) rfl (by decide +kernel) ?_
      refine X_bin rfl rfl ?_
      refine X_stk (st' := [.int (nI (h + 1)), .ref (ρ 0)]) (congrArg (fun q => [Value.int q, .ref (ρ 0)]) (m_add (a := h) (b := 1) rfl rfl)) ?_
      have hpk : ∀ q9 rd1, l_prs tx n m w f' 3 z (h + 1) 0 p1 rd = .inr (q9, rd1) → s_pk 1 rd rd1 p1 q9 k n := fun q9 rd1 h1 => l_prs_ok hn8 (by omega) _ _ _ _ _ _ k _ _ _ (by omega) hrd.2.1 (by omega) h1
      have hen2 : p1 ≤ l_en n (l_prs tx n m w f' 3 z (h + 1) 0 p1 rd) ∧ l_en n (l_prs tx n m w f' 3 z (h + 1) 0 p1 rd) ≤ l_en n R := by
        cases hRR : l_prs tx n m w f' 3 z (h + 1) 0 p1 rd with
        | inl e =>
          rw [hR1, hRR]
          exact ⟨by show p1 ≤ n; omega, Nat.le_refl _⟩
        | inr x =>
          obtain ⟨q9, rd1⟩ := x
          have g1 := (hpk q9 rd1 hRR).1
          refine ⟨g1.1, ?_⟩
          rw [hR1, hRR]
          have hs9 := l_sk_le (tx := tx) g1.2
          show q9 ≤ l_en n (if l_see tx n q9 = 41 then .inr (l_sk tx n q9 + 1, rd1) else .inl (-2, l_sk tx n q9))
          by_cases e : l_see tx n q9 = 41
          · rw [if_pos e]; show q9 ≤ l_sk tx n q9 + 1; omega
          · rw [if_neg e]; exact g1.2
      refine X_vcallP (c_B (hρ1.o 0 (by decide)) rs_r) l_X6_X6_readCondition (hPC _ K1 hv rd tl1 p1 k f' (h + 1) z (by omega) hρ1 hX1 hA hcol ⟨hrd.1, hrd.2.1, by omega⟩ hhv (by omega)) rfl rfl rfl rfl (Nat.le_of_ble_eq_true rfl) (Nat.le_of_ble_eq_true rfl) (by omega) (by omega) (by omega) (fun N1 r9 hq9 => ?_)
      cases hRR : l_prs tx n m w f' 3 z (h + 1) 0 p1 rd with
      | inl e9 =>
        obtain ⟨e9, a9⟩ := e9
        rw [hRR] at hq9 hen2 hR1
        obtain ⟨he9, K2, tl2, hv2, B2, v, l, hek, hgw, ⟨hsg, hlen⟩, rfl, rfl⟩ := hq9
        refine X_stk (st' := [.ref v]) rfl ?_
        refine X_st rfl rfl rfl ?_
        refine X_ld rfl rfl rfl rfl ?_
        refine X_push (v := .int 41) rfl (by decide +kernel) ?_
        refine X_vcallv (c_B (hgw.2.1.o 0 (by decide)) rs_r) l_X6_X6_expectByte (p_expectByteX hG hK hgw.2.1 d he9 hek (s := 41) (by decide)) rfl rfl rfl rfl (Nat.le_of_ble_eq_true rfl) (Nat.le_of_ble_eq_true rfl) (by omega) (by omega) (by omega) ?_
        refine X_ld rfl rfl rfl rfl ?_
        change p1 ≤ n ∧ n ≤ l_en n R at hen2
        refine X_aret rfl rfl (Or.inl ⟨_, rfl⟩) (Or.inr ⟨_, rfl⟩) ?_ (by show _ + (8 * (n - p1) + 14) + 0 ≤ _; omega) (by show _ + (160 * (n - p1) + 34) + 0 ≤ _; omega)
        rw [hR1]
        exact ⟨he9, K2, tl2, hv2, B2, v, l, hek, ⟨hle1.trans hgw.1, hgw.2⟩, ⟨t_sg.mono (y_dif_w hle1) _ _ _ _ (by omega) hsg, by omega⟩, rfl, rfl⟩
      | inr x9 =>
        obtain ⟨q9, rd1⟩ := x9
        have g1 := (hpk q9 rd1 hRR).1
        rw [hRR] at hq9 hen2 hR1
        change R = (if l_see tx n q9 = 41 then .inr (l_sk tx n q9 + 1, rd1) else .inl (-2, l_sk tx n q9)) at hR1
        obtain ⟨K2, tl2, hv2, B2, v, E, l, hat2, hgw, ⟨htr, hlen⟩, hhv2, hcod2, hrd2, rfl, rfl⟩ := hq9
        refine X_stk (st' := [.ref v]) rfl ?_
        refine X_st rfl rfl rfl ?_
        refine X_ld rfl rfl rfl rfl ?_
        refine X_push (v := .int 41) rfl (by decide +kernel) ?_
        refine X_vcallP (c_B (hgw.2.1.o 0 (by decide)) rs_r) l_X6_X6_expectByte (p_expectByte hG hK hgw.2.1 d hr hn8 hsp hat2 (s := 41) (by decide) (by decide) (by decide)) rfl rfl rfl rfl (Nat.le_of_ble_eq_true rfl) (Nat.le_of_ble_eq_true rfl) (by omega) (by omega) (by omega) (fun N1 r9 hq => ?_)
        change p1 ≤ q9 ∧ q9 ≤ l_en n R at hen2
        have hs9 := l_sk_le (tx := tx) g1.2
        by_cases h41 : l_see tx n q9 = 41
        · rw [show y_wb tx n (nI 41) q9 = _ from if_pos h41] at hq
          obtain ⟨K3, tl3, hat3, rfl, rfl⟩ := hq
          refine X_stk (st' := []) rfl ?_
          refine X_ld rfl rfl rfl rfl ?_
          rw [if_pos h41] at hR1
          refine X_aret rfl rfl (Or.inl ⟨_, rfl⟩) (Or.inr ⟨_, rfl⟩) ?_ (by show _ + (8 * (q9 - p1) + 14) + 0 ≤ _; omega) (by show _ + (160 * (q9 - p1) + 34) + 0 ≤ _; omega)
          rw [hR1]
          exact ⟨K3, tl3, hv2, B2, v, E, l, hat3, ⟨hle1.trans hgw.1, hgw.2⟩, ⟨y_tr_W (by omega) (y_tr_le (y_dif_w hle1) htr), by omega⟩, hhv2, hcod2, hrd2, rfl, rfl⟩
        · rw [show y_wb tx n (nI 41) q9 = _ from if_neg h41] at hq
          obtain ⟨hx9, K3, tl3, hek, rfl, rfl⟩ := hq
          refine X_stk (st' := []) rfl ?_
          refine X_ld rfl rfl rfl rfl ?_
          rw [if_neg h41] at hR1
          refine X_aret rfl rfl (Or.inl ⟨_, rfl⟩) (Or.inr ⟨_, rfl⟩) ?_ (by show _ + (8 * (q9 - p1) + 14) + 0 ≤ _; omega) (by show _ + (160 * (q9 - p1) + 34) + 0 ≤ _; omega)
          rw [hR1]
          exact ⟨by decide, K3, tl3, hv2, B2, v, l, hek, ⟨hle1.trans hgw.1, hgw.2⟩, ⟨t_sg.mono (y_dif_w hle1) _ _ _ _ (by omega) htr.2.1, by omega⟩, rfl, rfl⟩
    · have hnn := (z_not hr hp).mp c40
      have hp1 : l_tk tx n p (x_w 4) = l_sk tx n p + 3 := l_tk_y hnn
      have hwe : l_we tx n p = l_sk tx n p + 3 := l_isw_we hnn
      have hR1 : R = l_bi (l_prs tx n m w f' 0 false (h + 1) 0 (l_tk tx n p (x_w 4)) rd) (fun x => .inr (x.1, s_code x.2 (n_ (x.2 9)) 3 0)) := hR0.trans ((if_pos hnn).trans ((if_neg (by omega)).trans (by rw [l_tk_sk hp])))
      refine X_push (v := .int 1) rfl (by decide +kernel) ?_
      refine X_goto rfl ?_
      refine X_st rfl rfl rfl ?_
      refine X_ld rfl rfl rfl rfl ?_
      refine X_get f_X6_26 rfl (c_B (hρ.o 0 (by decide)) rs_r) rfl ?_
      refine X_vcallv c_T l_X6_X8_advance (p_advance hG d h3 h4 (by have := hsp.1.2; omega) (by have := hsp.1.2; omega)) rfl rfl rfl rfl (Nat.le_of_ble_eq_true rfl) (Nat.le_of_ble_eq_true rfl) (by omega) (by omega) (by omega) ?_
      have hA := z_adv (tk := tk) (ts := ts) (tv := tv) (tl := tl) hsp hp hj hz h3 hlt
      rw [z_wte hp 4 hnn] at hA
      clear htl
      generalize y_adK K tk ts c (j + 1) = K1 at hA ⊢
      generalize y_adl tl tv c (j + 1) = tl1 at hA ⊢
      generalize hp1e : l_tk tx n p (x_w 4) = p1 at hA hR1 hp1
      refine X_ld rfl rfl rfl rfl ?_
      refine X_if_eq rfl (fun c57 => absurd c57 (by decide)) (fun c57 => ?_)
      refine X_ld rfl rfl rfl rfl ?_
      refine X_get f_X6_215 rfl (rc_B hρ1 n1a ho1) rfl ?_
      refine X_ld rfl rfl rfl rfl ?_
      refine X_ld rfl rfl rfl rfl ?_
      refine X_push (v := .int 1) rfl (by decide +kernel) ?_
      refine X_bin rfl rfl ?_
      refine X_stk (st' := [.int (nI (h + 1)), .ref (ρ 0), .ref la]) (congrArg (fun q => [Value.int q, .ref (ρ 0), .ref la]) (m_add (a := h) (b := 1) rfl rfl)) ?_
      have hpk : ∀ q9 rd1, l_prs tx n m w f' 0 false (h + 1) 0 p1 rd = .inr (q9, rd1) → s_pk 1 rd rd1 p1 q9 k n := fun q9 rd1 h1 => l_prs_ok hn8 (by omega) _ _ _ _ _ _ k _ _ _ (by omega) hrd.2.1 (by omega) h1
      have hen2 : p1 ≤ l_en n (l_prs tx n m w f' 0 false (h + 1) 0 p1 rd) ∧ l_en n (l_prs tx n m w f' 0 false (h + 1) 0 p1 rd) ≤ l_en n R := by
        cases hRR : l_prs tx n m w f' 0 false (h + 1) 0 p1 rd with
        | inl e =>
          rw [hR1, hRR]
          exact ⟨by show p1 ≤ n; omega, Nat.le_refl _⟩
        | inr x =>
          obtain ⟨q9, rd1⟩ := x
          have g1 := (hpk q9 rd1 hRR).1
          refine ⟨g1.1, ?_⟩
          rw [hR1, hRR]
          exact Nat.le_refl _
      refine X_vcallP (c_B (hρ1.o 0 (by decide)) rs_r) l_X6_X6_readFactor (hPF _ K1 hv rd tl1 p1 k f' (h + 1) false (by omega) hρ1 hX1 hA hcol ⟨hrd.1, hrd.2.1, by omega⟩ hhv (by omega)) rfl rfl rfl rfl (Nat.le_of_ble_eq_true rfl) (Nat.le_of_ble_eq_true rfl) (by omega) (by omega) (by omega) (fun N1 r9 hq9 => ?_)
      cases hRR : l_prs tx n m w f' 0 false (h + 1) 0 p1 rd with
      | inl e9 =>
        obtain ⟨e9, a9⟩ := e9
        rw [hRR] at hq9 hen2 hR1
        change p1 ≤ n ∧ n ≤ l_en n R at hen2
        obtain ⟨he9, K2, tl2, hv2, B2, v, l, hek, hgw, ⟨hsg, hlen⟩, rfl, rfl⟩ := hq9
        refine X_stk (st' := [.ref v, .ref la]) rfl ?_
        have hob := t_sg.ob _ _ _ hsg
        refine X_room (cells' := 2 + (8 * (n - p1) + 8)) (slots' := 5 + (160 * (n - p1) + 4)) (by show _ + (8 * (n - p1) + 8) ≤ _; omega) (by show _ + (160 * (n - p1) + 4) ≤ _; omega) ?_
        refine X_vcallP (rc_B hgw.2.1 (y_lb_le hgw.1 hlb).1 (y_lb_le hgw.1 hlb).2.1) l_X6_Jx4a65c_add_9ea2d (j_add hG hK hM d (y_none2 hgw.2.1 hgw.2.2.1) (y_lb.s hgw.2.1 (y_lb_le hgw.1 hlb)) (y_ob_c hgw.2.1 hob.1 (y_ob_le y_dif_le hob.2)) (by decide)) rfl rfl rfl rfl (Nat.le_of_ble_eq_true rfl) (Nat.le_of_ble_eq_true rfl) (by omega) (by omega) (by show _ + 10 ≤ _; omega) (fun N9 r9 hq9 => ?_)
        obtain ⟨hA9, rfl⟩ := hq9
        obtain ⟨B3, el3, rfl, b1, b2, b3, b4, b5, b6, -⟩ := y_addB hgw.2.1 hgw.2.2.1 hgw.2.2.2 (y_lb_le hgw.1 hlb) hob.1 (y_ob_le y_dif_le hob.2) hA9
        clear hA9
        refine X_stk (st' := .int 1 :: []) rfl ?_
        refine X_pop rfl rfl ?_
        obtain ⟨z1, z2, z3, z4⟩ := y_not (kd := 2) hX.2 n2a o2a hnea h64a hgw b1 b4 b5
        refine X_ld rfl rfl rfl rfl ?_
        refine X_aret rfl rfl (Or.inl ⟨_, rfl⟩) (Or.inr ⟨_, rfl⟩) ?_ (by omega) (by show _ + 10 ≤ _; omega)
        rw [hR1]
        refine ⟨he9, K2, tl2, hv2, B3, o, [], hek, ⟨z1, b2, b3.1, b3.2⟩, ⟨?_, by show 3 * 0 + p ≤ n + 3; omega⟩, rfl, rfl⟩
        rw [show 1 + 2 * (r' + 1) = (1 + 2 * r' + 1) + 1 by omega]
        refine Or.inr ⟨2, la, 1, updF (fun _ => 0) 0 v, fun _ => l, n1a, z2, z3, fun j hj => ?_, (if_neg (fun q => q.elim (by decide) (fun q => absurd q.1 (by decide)))).symm⟩
        obtain rfl : j = 0 := by omega
        rw [show updF (fun _ => 0) 0 v 0 = v from if_pos rfl]
        exact t_sg.mono z4 _ _ _ _ (by omega) hsg
      | inr x9 =>
        obtain ⟨q9, rd1⟩ := x9
        obtain ⟨g1, g2, kk, g3, g4, g5⟩ := hpk q9 rd1 hRR
        rw [hRR] at hq9 hen2 hR1
        change R = .inr (q9, s_code rd1 (n_ (rd1 9)) 3 0) at hR1
        change p1 ≤ q9 ∧ q9 ≤ l_en n R at hen2
        obtain ⟨K2, tl2, hv2, B2, v, E, l, hat2, hgw, ⟨htr, hlen⟩, hhv2, hcod2, hrd2, rfl, rfl⟩ := hq9
        refine X_stk (st' := [.ref v, .ref la]) rfl ?_
        have hob := t_sg.ob _ _ _ htr.2.1
        refine X_room (cells' := 2 + (8 * (q9 - p1) + 8)) (slots' := 5 + (160 * (q9 - p1) + 4)) (by show _ + (8 * (q9 - p1) + 8) ≤ _; omega) (by show _ + (160 * (q9 - p1) + 4) ≤ _; omega) ?_
        refine X_vcallP (rc_B hgw.2.1 (y_lb_le hgw.1 hlb).1 (y_lb_le hgw.1 hlb).2.1) l_X6_Jx4a65c_add_9ea2d (j_add hG hK hM d (y_none2 hgw.2.1 hgw.2.2.1) (y_lb.s hgw.2.1 (y_lb_le hgw.1 hlb)) (y_ob_c hgw.2.1 hob.1 (y_ob_le y_dif_le hob.2)) (by decide)) rfl rfl rfl rfl (Nat.le_of_ble_eq_true rfl) (Nat.le_of_ble_eq_true rfl) (by omega) (by omega) (by show _ + 10 ≤ _; omega) (fun N9 r9 hq9 => ?_)
        obtain ⟨hA9, rfl⟩ := hq9
        obtain ⟨B3, el3, rfl, b1, b2, b3, b4, b5, b6, -⟩ := y_addB hgw.2.1 hgw.2.2.1 hgw.2.2.2 (y_lb_le hgw.1 hlb) hob.1 (y_ob_le y_dif_le hob.2) hA9
        clear hA9
        refine X_stk (st' := .int 1 :: []) rfl ?_
        refine X_pop rfl rfl ?_
        obtain ⟨z1, z2, z3, z4⟩ := y_not (kd := 2) hX.2 n2a o2a hnea h64a hgw b1 b4 b5
        have hnkk : n_ (rd1 9) = kk := by rw [g3]; exact n_nI (by omega)
        rw [hnkk] at hR1 htr
        refine X_ld rfl rfl rfl rfl ?_
        refine X_aret rfl rfl (Or.inl ⟨_, rfl⟩) (Or.inr ⟨_, rfl⟩) ?_ (by omega) (by show _ + 10 ≤ _; omega)
        rw [hR1]
        refine ⟨K2, tl2, hv2, B3, o, (s_cpE 2 1 (fun _ => E)), [], hat2, ⟨z1, b2, b3.1, b3.2⟩, ⟨?_, by show 3 * 0 + p ≤ q9; omega⟩, fun h8 hh4 => (hhv2 h8 hh4).trans (s_code_ne (by omega) (by omega)).symm, fun j h1 x h2 => (s_code_lt (by omega) h2).trans (hcod2 j h1 x h2), fun j h1 h2 h8 => (s_code_ne h2 (by omega)).trans (hrd2 j h1 h2 h8), rfl, rfl⟩
        rw [s_code_9, n_nI (by omega)]
        exact y_tr_W (by omega) (y_tr_not htr z4 n1a z2 z3 (if_pos rfl))
  · have hh : h = 6 := by
      have : ¬ h < 6 := fun q => c12 ((n_lt rfl (show (6 : Int32) = nI 6 from rfl) (by omega) (by omega)).mpr q)
      omega
    have hR1 : R = .inl (-8, l_sk tx n p) := by
      rw [hR0]
      by_cases q : l_isw tx n p (x_w 4) = true
      · rw [if_pos q, if_pos hh]
      · rw [if_neg q, if_pos (hno.resolve_left q), if_pos hh]
    refine X_ld rfl rfl rfl rfl ?_
    refine X_push (v := .int (-8)) rfl (by decide +kernel) ?_
    refine X_ld rfl rfl rfl rfl ?_
    refine X_get f_X6_26 rfl (c_B (hρ.o 0 (by decide)) rs_r) rfl ?_
    refine X_get f_X6_88 rfl c_T (v := .int (nI (l_sk tx n p))) (congrArg Value.int h6) ?_
    refine X_vcallv (c_B (hρ1.o 0 (by decide)) rs_r) l_X6_X6_fail (p_fail hG hK hρ1 d rfl (x := (-8)) (y := nI (l_sk tx n p))) rfl rfl rfl rfl (Nat.le_of_ble_eq_true rfl) (Nat.le_of_ble_eq_true rfl) (by omega) (by omega) (by omega) ?_
    refine X_ld rfl rfl rfl rfl ?_
    refine X_aret rfl rfl (Or.inl ⟨_, rfl⟩) (Or.inr ⟨_, rfl⟩) ?_ (by omega) (by omega)
    rw [hR1]
    refine ⟨by decide, _, tl, hv, _, o, [], z_er_mk h4 (by have := hsp.1.2; omega), ⟨hle1, hρ1, hX1.1, hX1.2⟩, ⟨?_, by show 3 * 0 + p ≤ n + 3; omega⟩, rfl, rfl⟩
    rw [show 1 + 2 * r = 2 * r + 1 by omega]
    exact Or.inr ⟨2, la, 0, fun _ => 0, fun _ => [], n1a, (y_dif_of n2a).trans ho1, y_lb_dif hlb o2a hX.2 (by decide), fun j hj => absurd hj (Nat.not_lt_zero _), (if_neg (fun q => q.elim (by decide) (fun q => absurd q.1 (by decide)))).symm⟩
theorem x_QF_r {tx bf : Nat → Int32} {n c w0 p : Nat} {FB : Int32 → Int32 → (Nat → Int32) → Int64 → (Nat → Int32) → XH → XH} {ea : Int32} {B : XH} {ρ : Nat → Nat} {W k : Nat} {rd : Nat → Int32} {z : Bool} {R : LR} {N : XH} {rr : Option Value} (h : x_QF tx bf n c w0 p FB ea B ρ W k rd z R N rr) : ∃ a, rr = some (.ref a) := by
  rcases R with ⟨e, a⟩ | ⟨q, rd'⟩
  · obtain ⟨-, _, _, _, _, o, _, -, -, -, -, h⟩ := h
    exact ⟨o, h⟩
  · obtain ⟨_, _, _, _, o, _, _, -, -, -, -, -, -, -, h⟩ := h
    exact ⟨o, h⟩
theorem w_factor {G : XE} (hG : x_Kn G) (hK : x_KS G) (hM : x_KM G) {J bf tk ts : Nat → Int32} {tv : Nat → Int64} {su : Nat → Nat} {D : Nat → Nat → Int32} {ρ : Nat → Nat} {i : Nat} {ea : Int32} {sv ty : Nat → Int32} {nm : Nat → Int64} {tx : Nat → Int32} {n c m w d r : Nat} (hr : s_rtx tx bf n) (hn8 : n ≤ 800) (hsp : z_split bf tx n tk ts tv c) (hw6 : w < 6) (hrec : ∀ r', r = r' + 1 → x_PF G J bf tk ts tv su D ρ i ea sv ty nm tx n c m w d (r') ∧ x_PC G J bf tk ts tv su D ρ i ea sv ty nm tx n c m w d (r')) : x_PF G J bf tk ts tv su D ρ i ea sv ty nm tx n c m w d r := by
  intro B K hv rd tl p k f h z hh6 hρ hX hat hcol hrd hhv hf
  refine X_M hG okX6_readFactor rfl (L := [some (.ref (ρ 0)), some (.int (nI h)), none, none, none, none, none]) rfl (Nat.le_of_ble_eq_true rfl) (fun ad0 nb0 => ?_)
  have hr9 := l_prs_0 (tx := tx) (n := n) (m := m) (w := w) (f := f - 1) (z := z) (h := h) (fr := 0) (p := p) (rd := rd)
  rw [show f - 1 + 1 = f by omega] at hr9
  obtain ⟨hp, j, hj, hz, h3, h4, h5, h6, htl⟩ := id hat
  have hm5 := hcol.1
  have hnk : n_ (rd 9) = k := by rw [hrd.2.1]; exact n_nI (by omega)
  refine X_ld rfl rfl rfl rfl ?_
  refine X_get f_X6_26 rfl (c_B (hρ.o 0 (by decide)) rs_r) rfl ?_
  refine X_get f_X6_85 rfl c_T (v := .int (z_tk bf tx n (l_sk tx n p))) (congrArg Value.int h5) ?_
  refine X_push (v := .int 260) rfl (by decide +kernel) ?_
  refine X_icmp_eq rfl (fun c10 => ?_) (fun c10 => ?_)
  · refine X_ld rfl rfl rfl rfl ?_
    refine X_ld rfl rfl rfl rfl ?_
    refine X_vcallP (c_B (hρ.o 0 (by decide)) rs_r) l_X6_X6_readNested (w_nested (z := z) hG hK hM hr hn8 hsp hw6 hrec hh6 hρ hX hat hcol hrd hhv hf (Or.inl ((z_not hr hp).mp c10))) rfl rfl rfl rfl (Nat.le_of_ble_eq_true rfl) (Nat.le_of_ble_eq_true rfl) (by omega) (by omega) (by omega) (fun N1 r9 hq9 => ?_)
    obtain ⟨a9, rfl⟩ := x_QF_r hq9
    exact X_aret rfl rfl (Or.inl ⟨_, rfl⟩) (Or.inr ⟨_, rfl⟩) hq9 (by omega) (by omega)
  · refine X_ld rfl rfl rfl rfl ?_
    refine X_get f_X6_26 rfl (c_B (hρ.o 0 (by decide)) rs_r) rfl ?_
    refine X_get f_X6_85 rfl c_T (v := .int (z_tk bf tx n (l_sk tx n p))) (congrArg Value.int h5) ?_
    refine X_push (v := .int 40) rfl (by decide +kernel) ?_
    refine X_icmp_ne rfl (fun c22 => ?_) (fun c22 => ?_)
    · have hnn : ¬ l_isw tx n p (x_w 4) = true := fun q => c10 ((z_not hr hp).mpr q)
      have hn4 : ¬ l_see tx n p = 40 := fun q => c22 ((z_s' hr hp 40 (by decide)).mpr q)
      have hR : (l_prs tx n m w f 0 z h 0 p rd) = l_cmp tx n m w k z (l_sk tx n p) rd := hr9.trans ((if_neg hnn).trans ((if_neg hn4).trans (by rw [hnk])))
      have hsl := l_sk_le (tx := tx) hp
      refine w_cmp hG hK hρ (d + 3 * r + 4) hX.1 hX.2 hr hn8 hsp (z_at_sk hat) hcol hw6 (show k ≤ 1000 by omega) hrd.1 hhv (z := z) (by omega) (by omega) (fun N rr hq => ?_)
      rw [hR]
      exact x_QF_mono (by omega) hsl.1 y_le_rfl hq
    · refine X_ld rfl rfl rfl rfl ?_
      refine X_ld rfl rfl rfl rfl ?_
      refine X_vcallP (c_B (hρ.o 0 (by decide)) rs_r) l_X6_X6_readNested (w_nested (z := z) hG hK hM hr hn8 hsp hw6 hrec hh6 hρ hX hat hcol hrd hhv hf (Or.inr ((z_s' hr hp 40 (by decide)).mp c22))) rfl rfl rfl rfl (Nat.le_of_ble_eq_true rfl) (Nat.le_of_ble_eq_true rfl) (by omega) (by omega) (by omega) (fun N1 r9 hq9 => ?_)
      obtain ⟨a9, rfl⟩ := x_QF_r hq9
      exact X_aret rfl rfl (Or.inl ⟨_, rfl⟩) (Or.inr ⟨_, rfl⟩) hq9 (by omega) (by omega)
theorem w_all {G : XE} (hG : x_Kn G) (hK : x_KS G) (hM : x_KM G) {J bf tk ts : Nat → Int32} {tv : Nat → Int64} {su : Nat → Nat} {D : Nat → Nat → Int32} {ρ : Nat → Nat} {i : Nat} {ea : Int32} {sv ty : Nat → Int32} {nm : Nat → Int64} {tx : Nat → Int32} {n c m w d : Nat} (hr : s_rtx tx bf n) (hn8 : n ≤ 800) (hsp : z_split bf tx n tk ts tv c) (hw6 : w < 6) : ∀ r, x_PF G J bf tk ts tv su D ρ i ea sv ty nm tx n c m w d r ∧ x_PC G J bf tk ts tv su D ρ i ea sv ty nm tx n c m w d r := by
  intro r
  induction r with
  | zero =>
    have h := w_factor (J := J) (sv := sv) (ty := ty) (nm := nm) (su := su) (D := D) (ρ := ρ) (i := i) (ea := ea) (m := m) (w := w) (d := d) (r := 0) hG hK hM hr hn8 hsp hw6 (fun r' e => by omega)
    exact ⟨h, w_cond hG hK hM hr hn8 hsp hw6 h⟩
  | succ r ih =>
    have h := w_factor (J := J) (sv := sv) (ty := ty) (nm := nm) (su := su) (D := D) (ρ := ρ) (i := i) (ea := ea) (m := m) (w := w) (d := d) (r := r + 1) hG hK hM hr hn8 hsp hw6 (fun r' e => by
      obtain rfl : r' = r := by omega
      exact ih)
    exact ⟨h, w_cond hG hK hM hr hn8 hsp hw6 h⟩
theorem p_readFactorX {G : XE} (hG : x_Kn G) (hK : x_KS G) {B : XH} {J bf K tk ts : Nat → Int32} {tl : Int64} {tv : Nat → Int64} {su : Nat → Nat} {D : Nat → Nat → Int32} {ρ : Nat → Nat} (hρ : y_ds ρ B) {i : Nat} {er ea : Int32} {sv ty hv : Nat → Int32} {nm : Nat → Int64} (d : Nat) (her : ¬ er = 0) (hek : z_er K) {rd : Nat → Int32} {m : Nat} (hcol : y_col rd sv ty nm m) (hB0 : B 0 = none) (hB2 : B 2 = none) {dep : Int32} : x_M G mX6_readFactor (d + 4) 1 4 [.ref (ρ 0), .int dep] (cset (rset B ρ i er ea sv nm ty hv) J bf K tk ts tl tv su D) (fun N rr => ∃ v, s_out v ∧ B v = none ∧ 64 ≤ v ∧ (∀ a, a < 5 → ¬ v = ρ a) ∧ N = cset (rset (x_set B v (.inl (1, cV4 (-1) 61 1 (-1)))) ρ i er ea sv nm ty hv) J bf K tk ts tl tv su D ∧ rr = some (.ref v)) x_noX := by
  refine X_M hG okX6_readFactor rfl (L := [some (.ref (ρ 0)), some (.int dep), none, none, none, none, none]) rfl (Nat.le_of_ble_eq_true rfl) (fun ad0 nb0 => ?_)
  obtain ⟨h3, h5, j, hj8, h4⟩ := id hek
  refine X_ld rfl rfl rfl rfl ?_
  refine X_get f_X6_26 rfl (c_B (hρ.o 0 (by decide)) rs_r) rfl ?_
  refine X_get f_X6_85 rfl c_T (v := .int 256) (congrArg Value.int h5) ?_
  refine X_push (v := .int 260) rfl (by decide +kernel) ?_
  refine X_icmp_eq rfl (fun c10 => absurd c10 (by decide)) (fun c10 => ?_)
  refine X_ld rfl rfl rfl rfl ?_
  refine X_get f_X6_26 rfl (c_B (hρ.o 0 (by decide)) rs_r) rfl ?_
  refine X_get f_X6_85 rfl c_T (v := .int 256) (congrArg Value.int h5) ?_
  refine X_push (v := .int 40) rfl (by decide +kernel) ?_
  refine X_icmp_ne rfl (fun c22 => ?_) (fun c22 => absurd c22 (by decide))
  exact w_cmpX hG hK hρ d hB0 hB2 her hek hcol (Nat.le_of_ble_eq_true rfl) (Nat.le_of_ble_eq_true rfl) (fun v g1 g2 h64 g3 => ⟨v, g1, g2, h64, g3, rfl, rfl⟩)
theorem p_readConditionX {G : XE} (hG : x_Kn G) (hK : x_KS G) (hM : x_KM G) {B : XH} {J bf K tk ts : Nat → Int32} {tl : Int64} {tv : Nat → Int64} {su : Nat → Nat} {D : Nat → Nat → Int32} {ρ : Nat → Nat} (hρ : y_ds ρ B) {i : Nat} {er ea : Int32} {sv ty hv : Nat → Int32} {nm : Nat → Int64} (d : Nat) (her : ¬ er = 0) (hek : z_er K) {rd : Nat → Int32} {m : Nat} (hcol : y_col rd sv ty nm m) (hX : B 0 = none ∧ B 2 = none) {h : Nat} : x_M G mX6_readCondition (d + 9) 7 34 [.ref (ρ 0), .int (nI h)] (cset (rset B ρ i er ea sv nm ty hv) J bf K tk ts tl tv su D) (fun N rr => ∃ B' o l, y_gw B B' ρ ∧ t_sg (y_dif B B') 3 o l ∧ 3 * l.length + 0 ≤ 0 + 3 ∧ N = cset (rset (B') ρ i er ea sv nm ty hv) J bf K tk ts tl tv su D ∧ rr = some (.ref o)) x_noX := by
  refine X_M hG okX6_readCondition rfl (L := [some (.ref (ρ 0)), some (.int (nI h)), none, none, none]) rfl (Nat.le_of_ble_eq_true rfl) (fun ad0 nb0 => ?_)
  have hg0 : y_gs 0 = 10 := rfl
  refine X_newK n_X6_210 rfl (by show _ + 1 ≤ _; first | omega | exact Nat.le_of_ble_eq_true rfl) (by show _ + 2 ≤ _; first | omega | exact Nat.le_of_ble_eq_true rfl) (x_K_any (y_none2 hρ hX.1) (fun o hq9 h64a => ?_))
  refine X_dup rfl rfl ?_
  refine X_push (v := .int 1) rfl (by decide +kernel) ?_
  refine X_icallP l_X6_X1_init (p_X1init hG hK hM d ((x_set_ne (by omega)).trans (y_none2 hρ hX.1)) x_set_eq) rfl rfl rfl (Nat.le_of_ble_eq_true rfl) (Nat.le_of_ble_eq_true rfl) (by omega) (by omega) (by omega) (fun N1 r9 hq8 => ?_)
  obtain ⟨la, hl9, h649a, rfl, rfl⟩ := hq8
  obtain ⟨⟨n1a, n2a, n3a⟩, ⟨o1a, o2a, o3a⟩, hnea, hcs2⟩ := y_newC (c1 := .inl (0, lV 0 2 0)) (c2 := .inl (2, cpV 1 la)) hq9 hl9
  refine X_heap hcs2 ?_
  clear hcs2 hq9 hl9
  refine X_stk (st' := [.ref o]) rfl ?_
  refine X_st rfl rfl rfl ?_
  have hρ1 : y_ds ρ (x_set (x_set B la (.inl (0, lV 0 2 0))) o (.inl (2, cpV 1 la))) := (hρ.set o3a).set n3a
  have hX1 : (x_set (x_set B la (.inl (0, lV 0 2 0))) o (.inl (2, cpV 1 la))) 0 = none ∧ (x_set (x_set B la (.inl (0, lV 0 2 0))) o (.inl (2, cpV 1 la))) 2 = none := ⟨by rw [x_set_ne (by omega), x_set_ne (by omega)]; exact hX.1, by rw [x_set_ne (by omega), x_set_ne (by omega)]; exact hX.2⟩
  refine X_newK n_X6_210 rfl (by show _ + 1 ≤ _; first | omega | exact Nat.le_of_ble_eq_true rfl) (by show _ + 2 ≤ _; first | omega | exact Nat.le_of_ble_eq_true rfl) (x_K_any (y_none2 hρ1 hX1.1) (fun q hq9 h64b => ?_))
  refine X_dup rfl rfl ?_
  refine X_push (v := .int 0) rfl (by decide +kernel) ?_
  refine X_icallP l_X6_X1_init (p_X1init hG hK hM d ((x_set_ne (by omega)).trans (y_none2 hρ1 hX1.1)) x_set_eq) rfl rfl rfl (Nat.le_of_ble_eq_true rfl) (Nat.le_of_ble_eq_true rfl) (by omega) (by omega) (by omega) (fun N1 r9 hq8 => ?_)
  obtain ⟨ll, hl9, h649b, rfl, rfl⟩ := hq8
  obtain ⟨⟨n1b, n2b, n3b⟩, ⟨o1b, o2b, o3b⟩, hneb, hcs2⟩ := y_newC (c1 := .inl (0, lV 0 2 0)) (c2 := .inl (2, cpV 0 ll)) hq9 hl9
  refine X_heap hcs2 ?_
  clear hcs2 hq9 hl9
  refine X_stk (st' := [.ref q]) rfl ?_
  refine X_st rfl rfl rfl ?_
  have hρ2 : y_ds ρ (x_set (x_set (x_set (x_set B la (.inl (0, lV 0 2 0))) o (.inl (2, cpV 1 la))) ll (.inl (0, lV 0 2 0))) q (.inl (2, cpV 0 ll))) := (hρ1.set o3b).set n3b
  have hX2 : (x_set (x_set (x_set (x_set B la (.inl (0, lV 0 2 0))) o (.inl (2, cpV 1 la))) ll (.inl (0, lV 0 2 0))) q (.inl (2, cpV 0 ll))) 0 = none ∧ (x_set (x_set (x_set (x_set B la (.inl (0, lV 0 2 0))) o (.inl (2, cpV 1 la))) ll (.inl (0, lV 0 2 0))) q (.inl (2, cpV 0 ll))) 2 = none := ⟨by rw [x_set_ne (by omega), x_set_ne (by omega)]; exact hX1.1, by rw [x_set_ne (by omega), x_set_ne (by omega)]; exact hX1.2⟩
  have hle1 : y_le B (x_set (x_set B la (.inl (0, lV 0 2 0))) o (.inl (2, cpV 1 la))) := y_le.trans (y_le_set o2a) (y_le_set (by rw [x_set_ne (Ne.symm hnea)]; exact n2a))
  have hle2 : y_le (x_set (x_set B la (.inl (0, lV 0 2 0))) o (.inl (2, cpV 1 la))) (x_set (x_set (x_set (x_set B la (.inl (0, lV 0 2 0))) o (.inl (2, cpV 1 la))) ll (.inl (0, lV 0 2 0))) q (.inl (2, cpV 0 ll))) := y_le.trans (y_le_set o2b) (y_le_set (by rw [x_set_ne (Ne.symm hneb)]; exact n2b))
  have ho1 : (x_set (x_set (x_set (x_set B la (.inl (0, lV 0 2 0))) o (.inl (2, cpV 1 la))) ll (.inl (0, lV 0 2 0))) q (.inl (2, cpV 0 ll))) o = some (.inl (2, cpV 1 la)) := hle2 _ _ x_set_eq
  have hla : (x_set (x_set (x_set (x_set B la (.inl (0, lV 0 2 0))) o (.inl (2, cpV 1 la))) ll (.inl (0, lV 0 2 0))) q (.inl (2, cpV 0 ll))) la = some (.inl (0, lV 0 2 0)) := hle2 _ _ (by rw [x_set_ne hnea]; exact x_set_eq)
  have hlb : y_lb (x_set (x_set (x_set (x_set B la (.inl (0, lV 0 2 0))) o (.inl (2, cpV 1 la))) ll (.inl (0, lV 0 2 0))) q (.inl (2, cpV 0 ll))) la 0 2 0 (fun _ => 0) := ⟨o1a, hla, Or.inl ⟨rfl, rfl⟩⟩
  have hob : y_ob (x_set (x_set (x_set (x_set B la (.inl (0, lV 0 2 0))) o (.inl (2, cpV 1 la))) ll (.inl (0, lV 0 2 0))) q (.inl (2, cpV 0 ll))) q := ⟨2, _, _, _, _, x_set_eq, rfl, List.mem_of_getElem? (i := 1490) (by decide +kernel)⟩
  refine X_ld rfl rfl rfl rfl ?_
  refine X_get f_X6_215 rfl (rc_B hρ2 n1a ho1) rfl ?_
  refine X_ld rfl rfl rfl rfl ?_
  refine X_vcallP (rc_B hρ2 hlb.1 hlb.2.1) l_X6_Jx4a65c_add_9ea2d (j_add hG hK hM d (y_none2 hρ2 hX2.1) (y_lb.s hρ2 hlb) (y_ob_c hρ2 n1b hob) (by decide)) rfl rfl rfl rfl (Nat.le_of_ble_eq_true rfl) (Nat.le_of_ble_eq_true rfl) (by omega) (by omega) (by show _ + 10 ≤ _; omega) (fun N9 r9 hq9 => ?_)
  obtain ⟨hA9, rfl⟩ := hq9
  obtain ⟨B4, elA, rfl, u1, u2, u3, u4, u5, u6, -⟩ := y_addB hρ2 hX2.1 hX2.2 hlb n1b hob hA9
  clear hA9
  refine X_stk (st' := .int 1 :: []) rfl ?_
  refine X_pop rfl rfl ?_
  obtain ⟨hh, hle⟩ := y_hp_new (pL := fun _ => 0) hX.2 n1a n2a o1a o2a hnea h64a h649a n1b n2b o1b o2b hneb h64b h649b u1 u4 u5 u6
  obtain ⟨-, ⟨w1, w2, w3⟩, -, ⟨x1, x2, x3⟩, -⟩ := id hh
  refine X_ld rfl rfl rfl rfl ?_
  refine X_get f_X6_215 rfl (rc_B u2 w1 w3) rfl ?_
  refine X_ld rfl rfl rfl rfl ?_
  refine X_ld rfl rfl rfl rfl ?_
  refine X_vcallP (c_B (u2.o 0 (by decide)) rs_r) l_X6_X6_readFactor (p_readFactorX hG hK u2 d her hek hcol u3.1 u3.2) rfl rfl rfl rfl (Nat.le_of_ble_eq_true rfl) (Nat.le_of_ble_eq_true rfl) (by omega) (by omega) (by omega) (fun N1 r9 hq9 => ?_)
  obtain ⟨v, v1, v2, v3, v4, rfl, rfl⟩ := hq9
  have hgw := y_gw_new (c := (.inl (1, cV4 (-1) 61 1 (-1)))) u2 u3.1 u3.2 v2 v3 v4
  have hsg := t_sg_new (a := -1) (b := 61) (c := 1) (e := -1) v2 v1
  have hob2 := t_sg.ob _ _ _ hsg
  have hd1 := y_lb_le hgw.1 x1
  refine X_stk (st' := [.ref v, .ref ll]) rfl ?_
  refine X_room (cells' := 6) (slots' := 24) (by omega) (by show _ + 4 ≤ _; omega) ?_
  refine X_vcallP (rc_B hgw.2.1 hd1.1 hd1.2.1) l_X6_Jx4a65c_add_9ea2d (j_add hG hK hM d (y_none2 hgw.2.1 hgw.2.2.1) (y_lb.s hgw.2.1 hd1) (y_ob_c hgw.2.1 hob2.1 (y_ob_le y_dif_le hob2.2)) (by decide)) rfl rfl rfl rfl (Nat.le_of_ble_eq_true rfl) (Nat.le_of_ble_eq_true rfl) (by omega) (by omega) (by show _ + 10 ≤ _; omega) (fun N9 r9 hq9 => ?_)
  obtain ⟨hA9, rfl⟩ := hq9
  obtain ⟨B3, el3, rfl, b1, b2, b3, b4, b5, b6, -⟩ := y_addB hgw.2.1 hgw.2.2.1 hgw.2.2.2 hd1 hob2.1 (y_ob_le y_dif_le hob2.2) hA9
  clear hA9
  refine X_stk (st' := .int 1 :: []) rfl ?_
  refine X_pop rfl rfl ?_
  obtain ⟨y1, y2, y3, y4⟩ := y_step hh hle hgw b1 b4 b5
  refine X_push (v := .int 0) rfl (by decide +kernel) ?_
  refine X_st rfl rfl rfl ?_
  obtain ⟨l', z1, z2⟩ := y_errQ (n := 0) (p0 := 0) (lA := fun _ => []) (lL := fun _ => []) (p1 := 0) y1 y3 y_fz_dif (fun j hj => absurd hj (Nat.not_lt_zero _)) (fun j hj => absurd hj (Nat.not_lt_zero _)) (t_sg.mono y4 _ _ _ _ (Nat.le_refl _) hsg) ⟨by decide, by decide⟩ (fun _ => Nat.le_refl _) (by rw [if_pos rfl]; exact Nat.zero_le _) (Nat.zero_le _)
  exact w_cexit (h := h) (r := 0) hG hK b2 hek (by omega) (by omega) ⟨B3, o, l', ⟨y2, b2, b3.1, b3.2⟩, z1, z2, rfl, rfl⟩

