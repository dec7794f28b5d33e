/-! ===== the class's reader: conditions, factors ===== -/
theorem y_dif_w {B B1 B2 : XH} (h : y_le B B1) : y_le (y_dif B1 B2) (y_dif B B2) := fun k c hk => by
  rw [y_dif_of (y_le_no h (y_dif_new hk))]
  exact y_dif_le _ _ hk
/-- two compounds are new, the second in the first's list -/
theorem y_hp_new {B B3 : XH} {o la q ll elA : Nat} {pA pL : Nat → Nat} (h2 : B 2 = none) (n1 : s_out o) (n2 : B o = none) (n3 : s_out la) (n4 : B la = none) (n5 : ¬ la = o) (n6 : 64 ≤ o) (n7 : 64 ≤ la) (m1 : s_out q) (m2 : (x_set (x_set B la (.inl (0, lV 0 2 0))) o (.inl (2, cpV 1 la))) q = none) (m3 : s_out ll) (m4 : (x_set (x_set B la (.inl (0, lV 0 2 0))) o (.inl (2, cpV 1 la))) ll = none) (m5 : ¬ ll = q) (m6 : 64 ≤ q) (m7 : 64 ≤ ll)
    (g1 : y_lb B3 la (0 + 1) elA (0 + 1) (updF pA 0 q)) (g2 : y_kp (x_set (x_set (x_set (x_set B la (.inl (0, lV 0 2 0))) o (.inl (2, cpV 1 la))) ll (.inl (0, lV 0 2 0))) q (.inl (2, cpV 0 ll))) B3 la 2) (g3 : elA = 2 ∧ ¬ 2 = 2 ∨ (x_set (x_set (x_set (x_set B la (.inl (0, lV 0 2 0))) o (.inl (2, cpV 1 la))) ll (.inl (0, lV 0 2 0))) q (.inl (2, cpV 0 ll))) elA = none) (g4 : 64 ≤ elA) : y_hp B B3 o la elA (0 + 1) (0 + 1) (updF pA 0 q) q ll 2 0 0 pL ∧ y_le B B3 := by
  have hle1 : y_le B (x_set (x_set B la (.inl (0, lV 0 2 0))) o (.inl (2, cpV 1 la))) := y_le.trans (y_le_set n4) (y_le_set (by rw [x_set_ne (Ne.symm n5)]; exact n2))
  have ho1 : (x_set (x_set B la (.inl (0, lV 0 2 0))) o (.inl (2, cpV 1 la))) o = some (.inl (2, cpV 1 la)) := x_set_eq
  have hl1 : (x_set (x_set B la (.inl (0, lV 0 2 0))) o (.inl (2, cpV 1 la))) la = some (.inl (0, lV 0 2 0)) := by rw [x_set_ne n5]; exact x_set_eq
  generalize (x_set (x_set B la (.inl (0, lV 0 2 0))) o (.inl (2, cpV 1 la))) = B1 at *
  have hle2 : y_le B1 (x_set (x_set B1 ll (.inl (0, lV 0 2 0))) q (.inl (2, cpV 0 ll))) := y_le.trans (y_le_set m4) (y_le_set (by rw [x_set_ne (Ne.symm m5)]; exact m2))
  have hq2 : (x_set (x_set B1 ll (.inl (0, lV 0 2 0))) q (.inl (2, cpV 0 ll))) q = some (.inl (2, cpV 0 ll)) := x_set_eq
  have hl2 : (x_set (x_set B1 ll (.inl (0, lV 0 2 0))) q (.inl (2, cpV 0 ll))) ll = some (.inl (0, lV 0 2 0)) := by rw [x_set_ne m5]; exact x_set_eq
  generalize (x_set (x_set B1 ll (.inl (0, lV 0 2 0))) q (.inl (2, cpV 0 ll))) = B2 at *
  have e1 : q ≠ la := fun e => by rw [e, hl1] at m2; cases m2
  have e2 : ll ≠ la := fun e => by rw [e, hl1] at m4; cases m4
  have hB : B elA = none := by
    rcases g3 with ⟨-, g⟩ | g
    · exact absurd rfl g
    · exact y_le_no (hle1.trans hle2) g
  refine ⟨⟨⟨n1, n2, g2 _ _ (Ne.symm n5) (by omega) (hle2 _ _ ho1)⟩, ⟨m1, y_le_no hle1 m2, g2 _ _ e1 (by omega) hq2⟩, ⟨g1, n4, hB⟩, ⟨⟨m3, g2 _ _ e2 (by omega) hl2, Or.inl ⟨rfl, rfl⟩⟩, y_le_no hle1 m4, h2⟩, Ne.symm e2, by omega, by decide, if_pos rfl⟩, y_le_kp (hle1.trans hle2) g2 n4 h2⟩
/-- a NOT's list gets its part -/
theorem y_not {B B2 B3 : XH} {ρ : Nat → Nat} {o la el3 v : Nat} {kd : Int32} {pL : Nat → Nat} (h2 : B 2 = none) (n2 : B o = none) (n4 : B la = none) (n5 : ¬ la = o) (n6 : 64 ≤ o) (hgw : y_gw (x_set (x_set B la (.inl (0, lV 0 2 0))) o (.inl (2, cpV kd la))) B2 ρ) (g1 : y_lb B3 la (0 + 1) el3 (0 + 1) (updF pL 0 v)) (g2 : y_kp B2 B3 la 2) (g3 : el3 = 2 ∧ ¬ 2 = 2 ∨ B2 el3 = none) : y_le B B3 ∧ (y_dif B B3) o = some (.inl (2, cpV kd la)) ∧ l_at (y_dif B B3) la 1 (updF pL 0 v) ∧ y_le (y_dif (x_set (x_set B la (.inl (0, lV 0 2 0))) o (.inl (2, cpV kd la))) B2) (y_dif B B3) := by
  have hle1 : y_le B (x_set (x_set B la (.inl (0, lV 0 2 0))) o (.inl (2, cpV kd la))) := y_le.trans (y_le_set n4) (y_le_set (by rw [x_set_ne (Ne.symm n5)]; exact n2))
  have ho1 : (x_set (x_set B la (.inl (0, lV 0 2 0))) o (.inl (2, cpV kd la))) o = some (.inl (2, cpV kd la)) := x_set_eq
  have hl1 : (x_set (x_set B la (.inl (0, lV 0 2 0))) o (.inl (2, cpV kd la))) la = some (.inl (0, lV 0 2 0)) := by rw [x_set_ne n5]; exact x_set_eq
  generalize (x_set (x_set B la (.inl (0, lV 0 2 0))) o (.inl (2, cpV kd la))) = B1 at *
  have hB : B el3 = none := by
    rcases g3 with ⟨-, g⟩ | g
    · exact absurd rfl g
    · exact y_le_no (hle1.trans hgw.1) g
  refine ⟨y_le_kp (hle1.trans hgw.1) g2 n4 h2, (y_dif_of n2).trans (g2 _ _ (Ne.symm n5) (by omega) (hgw.1 _ _ ho1)), y_lb_dif g1 n4 hB (by decide), fun k c hk => ?_⟩
  have hn := y_dif_new hk
  have hc := y_dif_le _ _ hk
  rw [y_dif_of (y_le_no hle1 hn)]
  exact g2 _ _ (fun e => by rw [e, hl1] at hn; cases hn) (fun e => by rw [e, hgw.2.2.2] at hc; cases hc) hc
theorem x_QF_mono {tx bf : Nat → Int32} {n c w0 p p' : Nat} {FB : Int32 → Int32 → (Nat → Int32) → Int64 → (Nat → Int32) → XH → XH} {ea : Int32} {B B1 : XH} {ρ : Nat → Nat} {W W' k : Nat} {rd : Nat → Int32} {z : Bool} {R : LR} {N : XH} {rr : Option Value} (hW : W ≤ W') (hp : p ≤ p') (hB : y_le B B1) (h : x_QF tx bf n c w0 p' FB ea B1 ρ W k rd z R N rr) : x_QF tx bf n c w0 p FB ea B ρ W' k rd z R N rr := by
  rcases R with ⟨e, a⟩ | ⟨q, rd'⟩
  · obtain ⟨h1, K, tl, hv, B', o, l, h2, h3, ⟨h4, h5⟩, h6⟩ := h
    exact ⟨h1, K, tl, hv, B', o, l, h2, ⟨hB.trans h3.1, h3.2⟩, ⟨t_sg.mono (y_dif_w hB) _ _ _ _ hW h4, by omega⟩, h6⟩
  · obtain ⟨K, tl, hv, B', o, E, l, h2, h3, ⟨h4, h5⟩, h6⟩ := h
    exact ⟨K, tl, hv, B', o, E, l, h2, ⟨hB.trans h3.1, h3.2⟩, ⟨y_tr_W hW (y_tr_le (y_dif_w hB) h4), by omega⟩, h6⟩
theorem w_cond {G : XE} (hG : x_Kn G) (hK : x_KS G) (hM : x_KM G) {J bf tk ts : Nat → Int32} {tv : Nat → Int64} {su : Nat → Nat} {D : Nat → Nat → Int32} {ρ : Nat → Nat} {i : Nat} {ea : Int32} {sv ty : Nat → Int32} {nm : Nat → Int64} {tx : Nat → Int32} {n c m w d r : Nat} (hr : s_rtx tx bf n) (hn8 : n ≤ 800) (hsp : z_split bf tx n tk ts tv c) (hw6 : w < 6) (hPF : x_PF G J bf tk ts tv su D ρ i ea sv ty nm tx n c m w d r) : x_PC G J bf tk ts tv su D ρ i ea sv ty nm tx n c m w d r := by
  intro B K hv rd tl p k f h z hh6 hρ hX hat hcol hrd hhv hf
  refine X_M hG okX6_readCondition rfl (L := [some (.ref (ρ 0)), some (.int (nI h)), none, none, none]) rfl (Nat.le_of_ble_eq_true rfl) (fun ad0 nb0 => ?_)
  obtain ⟨f', rfl⟩ : ∃ f', f = f' + 2 := ⟨f - 2, by omega⟩
  have hp := hat.1
  have hm5 := hcol.1
  have hg0 : y_gs 0 = 10 := rfl
  have hnk : n_ (rd 9) = k := by rw [hrd.2.1]; exact n_nI (by omega)
  have hR0 : l_prs tx n m w (f' + 2) 3 z h 0 p rd = l_bi (l_bi (l_prs tx n m w f' 0 z h 0 p rd) fun x => l_prs tx n m w f' 2 z h 0 x.1 x.2) (y_ct tx n m w (f' + 1) h k true) := by rw [l_prs_3, l_prs_1, hnk]; rfl
  generalize l_prs tx n m w (f' + 2) 3 z h 0 p rd = R at hR0 ⊢
  have hpk : ∀ q9 rd1, (l_prs tx n m w f' 0 z h 0 p rd) = .inr (q9, rd1) → s_pk 1 rd rd1 p q9 k n := fun q9 rd1 h1 => l_prs_ok hn8 (by omega) _ _ _ _ _ _ k _ _ _ (by omega) hrd.2.1 (by omega) h1
  have hen : p ≤ l_en n (l_prs tx n m w f' 0 z h 0 p rd) ∧ l_en n (l_prs tx n m w f' 0 z h 0 p rd) ≤ l_en n R := by
    cases hR1 : l_prs tx n m w f' 0 z h 0 p rd with
    | inl e =>
      rw [hR0, hR1]
      exact ⟨hp, Nat.le_refl _⟩
    | inr x =>
      obtain ⟨q9, rd1⟩ := x
      obtain ⟨g1, g2, kk, g3, g4, g5⟩ := hpk q9 rd1 hR1
      have h9 : q9 ≤ l_en n R := by rw [hR0, hR1]; exact y_en2 hn8 (by omega) g1.2 g3 (by show 5 * kk + 0 ≤ 2 * q9; omega)
      exact ⟨g1.1, h9⟩
  refine X_newK n_X6_210 rfl (by show _ + 1 ≤ _; first | omega | exact Nat.le_of_ble_eq_true rfl) (by show _ + 2 ≤ _; first | omega | exact Nat.le_of_ble_eq_true rfl) (x_K_any (y_none2 hρ hX.1) (fun o hq9 h64a => ?_))
  refine X_dup rfl rfl ?_
  refine X_push (v := .int 1) rfl (by decide +kernel) ?_
  refine X_icallP l_X6_X1_init (p_X1init hG hK hM d ((x_set_ne (by omega)).trans (y_none2 hρ hX.1)) x_set_eq) rfl rfl rfl (Nat.le_of_ble_eq_true rfl) (Nat.le_of_ble_eq_true rfl) (by omega) (by omega) (by omega) (fun N1 r9 hq8 => ?_)
  obtain ⟨la, hl9, h649a, rfl, rfl⟩ := hq8
  obtain ⟨⟨n1a, n2a, n3a⟩, ⟨o1a, o2a, o3a⟩, hnea, hcs2⟩ := y_newC (c1 := .inl (0, lV 0 2 0)) (c2 := .inl (2, cpV 1 la)) hq9 hl9
  refine X_heap hcs2 ?_
  clear hcs2 hq9 hl9
  refine X_stk (st' := [.ref o]) rfl ?_
  refine X_st rfl rfl rfl ?_
  have hρ1 : y_ds ρ (x_set (x_set B la (.inl (0, lV 0 2 0))) o (.inl (2, cpV 1 la))) := (hρ.set o3a).set n3a
  have hX1 : (x_set (x_set B la (.inl (0, lV 0 2 0))) o (.inl (2, cpV 1 la))) 0 = none ∧ (x_set (x_set B la (.inl (0, lV 0 2 0))) o (.inl (2, cpV 1 la))) 2 = none := ⟨by rw [x_set_ne (by omega), x_set_ne (by omega)]; exact hX.1, by rw [x_set_ne (by omega), x_set_ne (by omega)]; exact hX.2⟩
  refine X_newK n_X6_210 rfl (by show _ + 1 ≤ _; first | omega | exact Nat.le_of_ble_eq_true rfl) (by show _ + 2 ≤ _; first | omega | exact Nat.le_of_ble_eq_true rfl) (x_K_any (y_none2 hρ1 hX1.1) (fun q hq9 h64b => ?_))
  refine X_dup rfl rfl ?_
  refine X_push (v := .int 0) rfl (by decide +kernel) ?_
  refine X_icallP l_X6_X1_init (p_X1init hG hK hM d ((x_set_ne (by omega)).trans (y_none2 hρ1 hX1.1)) x_set_eq) rfl rfl rfl (Nat.le_of_ble_eq_true rfl) (Nat.le_of_ble_eq_true rfl) (by omega) (by omega) (by omega) (fun N1 r9 hq8 => ?_)
  obtain ⟨ll, hl9, h649b, rfl, rfl⟩ := hq8
  obtain ⟨⟨n1b, n2b, n3b⟩, ⟨o1b, o2b, o3b⟩, hneb, hcs2⟩ := y_newC (c1 := .inl (0, lV 0 2 0)) (c2 := .inl (2, cpV 0 ll)) hq9 hl9
  refine X_heap hcs2 ?_
  clear hcs2 hq9 hl9
  refine X_stk (st' := [.ref q]) rfl ?_
  refine X_st rfl rfl rfl ?_
  have hρ2 : y_ds ρ (x_set (x_set (x_set (x_set B la (.inl (0, lV 0 2 0))) o (.inl (2, cpV 1 la))) ll (.inl (0, lV 0 2 0))) q (.inl (2, cpV 0 ll))) := (hρ1.set o3b).set n3b
  have hX2 : (x_set (x_set (x_set (x_set B la (.inl (0, lV 0 2 0))) o (.inl (2, cpV 1 la))) ll (.inl (0, lV 0 2 0))) q (.inl (2, cpV 0 ll))) 0 = none ∧ (x_set (x_set (x_set (x_set B la (.inl (0, lV 0 2 0))) o (.inl (2, cpV 1 la))) ll (.inl (0, lV 0 2 0))) q (.inl (2, cpV 0 ll))) 2 = none := ⟨by rw [x_set_ne (by omega), x_set_ne (by omega)]; exact hX1.1, by rw [x_set_ne (by omega), x_set_ne (by omega)]; exact hX1.2⟩
  have hle1 : y_le B (x_set (x_set B la (.inl (0, lV 0 2 0))) o (.inl (2, cpV 1 la))) := y_le.trans (y_le_set o2a) (y_le_set (by rw [x_set_ne (Ne.symm hnea)]; exact n2a))
  have hle2 : y_le (x_set (x_set B la (.inl (0, lV 0 2 0))) o (.inl (2, cpV 1 la))) (x_set (x_set (x_set (x_set B la (.inl (0, lV 0 2 0))) o (.inl (2, cpV 1 la))) ll (.inl (0, lV 0 2 0))) q (.inl (2, cpV 0 ll))) := y_le.trans (y_le_set o2b) (y_le_set (by rw [x_set_ne (Ne.symm hneb)]; exact n2b))
  have ho1 : (x_set (x_set (x_set (x_set B la (.inl (0, lV 0 2 0))) o (.inl (2, cpV 1 la))) ll (.inl (0, lV 0 2 0))) q (.inl (2, cpV 0 ll))) o = some (.inl (2, cpV 1 la)) := hle2 _ _ x_set_eq
  have hla : (x_set (x_set (x_set (x_set B la (.inl (0, lV 0 2 0))) o (.inl (2, cpV 1 la))) ll (.inl (0, lV 0 2 0))) q (.inl (2, cpV 0 ll))) la = some (.inl (0, lV 0 2 0)) := hle2 _ _ (by rw [x_set_ne hnea]; exact x_set_eq)
  have hlb : y_lb (x_set (x_set (x_set (x_set B la (.inl (0, lV 0 2 0))) o (.inl (2, cpV 1 la))) ll (.inl (0, lV 0 2 0))) q (.inl (2, cpV 0 ll))) la 0 2 0 (fun _ => 0) := ⟨o1a, hla, Or.inl ⟨rfl, rfl⟩⟩
  have hob : y_ob (x_set (x_set (x_set (x_set B la (.inl (0, lV 0 2 0))) o (.inl (2, cpV 1 la))) ll (.inl (0, lV 0 2 0))) q (.inl (2, cpV 0 ll))) q := ⟨2, _, _, _, _, x_set_eq, rfl, List.mem_of_getElem? (i := 1490) (by decide +kernel)⟩
  refine X_ld rfl rfl rfl rfl ?_
  refine X_get f_X6_215 rfl (rc_B hρ2 n1a ho1) rfl ?_
  refine X_ld rfl rfl rfl rfl ?_
  refine X_vcallP (rc_B hρ2 hlb.1 hlb.2.1) l_X6_Jx4a65c_add_9ea2d (j_add hG hK hM d (y_none2 hρ2 hX2.1) (y_lb.s hρ2 hlb) (y_ob_c hρ2 n1b hob) (by decide)) rfl rfl rfl rfl (Nat.le_of_ble_eq_true rfl) (Nat.le_of_ble_eq_true rfl) (by omega) (by omega) (by show _ + 10 ≤ _; omega) (fun N9 r9 hq9 => ?_)
  obtain ⟨hA9, rfl⟩ := hq9
  obtain ⟨B4, elA, rfl, u1, u2, u3, u4, u5, u6, -⟩ := y_addB hρ2 hX2.1 hX2.2 hlb n1b hob hA9
  clear hA9
  refine X_stk (st' := .int 1 :: []) rfl ?_
  refine X_pop rfl rfl ?_
  obtain ⟨hh, hle⟩ := y_hp_new (pL := fun _ => 0) hX.2 n1a n2a o1a o2a hnea h64a h649a n1b n2b o1b o2b hneb h64b h649b u1 u4 u5 u6
  obtain ⟨-, ⟨w1, w2, w3⟩, -, ⟨x1, x2, x3⟩, -⟩ := id hh
  refine X_ld rfl rfl rfl rfl ?_
  refine X_get f_X6_215 rfl (rc_B u2 w1 w3) rfl ?_
  refine X_ld rfl rfl rfl rfl ?_
  refine X_ld rfl rfl rfl rfl ?_
  refine X_vcallP (c_B (u2.o 0 (by decide)) rs_r) l_X6_X6_readFactor (hPF B4 K hv rd tl p k f' h z hh6 u2 u3 hat hcol hrd hhv (by omega)) rfl rfl rfl rfl (Nat.le_of_ble_eq_true rfl) (Nat.le_of_ble_eq_true rfl) (by omega) (by omega) (by omega) (fun N1 r9 hq9 => ?_)
  cases hR1 : l_prs tx n m w f' 0 z h 0 p rd with
  | inl e9 =>
    obtain ⟨e9, a9⟩ := e9
    rw [hR1] at hq9 hen
    obtain ⟨he9, K2, tl2, hv2, B2, v, l, hek, hgw, ⟨hsg, hlen⟩, rfl, rfl⟩ := hq9
    refine X_stk (st' := [.ref v, .ref ll]) rfl ?_
    have hob2 := t_sg.ob _ _ _ hsg
    have hd1 := y_lb_le hgw.1 x1
    change p ≤ n ∧ n ≤ l_en n R at hen
    refine X_room (cells' := 5 + (8 * (n - p) + 8)) (slots' := 20 + (160 * (n - p) + 4)) (by show _ + (8 * (n - p) + 8) ≤ _; omega) (by show _ + (160 * (n - p) + 4) ≤ _; omega) ?_
    refine X_vcallP (rc_B hgw.2.1 hd1.1 hd1.2.1) l_X6_Jx4a65c_add_9ea2d (j_add hG hK hM d (y_none2 hgw.2.1 hgw.2.2.1) (y_lb.s hgw.2.1 hd1) (y_ob_c hgw.2.1 hob2.1 (y_ob_le y_dif_le hob2.2)) (by decide)) rfl rfl rfl rfl (Nat.le_of_ble_eq_true rfl) (Nat.le_of_ble_eq_true rfl) (by omega) (by omega) (by show _ + 10 ≤ _; omega) (fun N9 r9 hq9 => ?_)
    obtain ⟨hA9, rfl⟩ := hq9
    obtain ⟨B3, el3, rfl, b1, b2, b3, b4, b5, b6, -⟩ := y_addB hgw.2.1 hgw.2.2.1 hgw.2.2.2 hd1 hob2.1 (y_ob_le y_dif_le hob2.2) hA9
    clear hA9
    refine X_stk (st' := .int 1 :: []) rfl ?_
    refine X_pop rfl rfl ?_
    obtain ⟨y1, y2, y3, y4⟩ := y_step hh hle hgw b1 b4 b5
    refine X_push (v := .int 0) rfl (by decide +kernel) ?_
    refine X_st rfl rfl rfl ?_
    obtain ⟨l', z1, z2⟩ := y_errQ (lA := fun _ => []) (lL := fun _ => []) (p1 := p) y1 y3 y_fz_dif (fun j hj => absurd hj (Nat.not_lt_zero _)) (fun j hj => absurd hj (Nat.not_lt_zero _)) (t_sg.mono y4 _ _ _ _ (Nat.le_refl _) hsg) ⟨by decide, by decide⟩ (fun _ => by show 3 * 0 + p ≤ p; omega) hlen hp
    refine w_cexit hG hK b2 hek (by omega) (by omega) ?_
    rw [hR0, hR1]
    exact ⟨he9, K2, tl2, hv2, B3, o, l', hek, ⟨y2, b2, b3.1, b3.2⟩, ⟨by rw [show 3 + 2 * r = 1 + 2 * r + 2 by omega]; exact z1, z2⟩, rfl, rfl⟩
  | inr x9 =>
    obtain ⟨q9, rd1⟩ := x9
    rw [hR1] at hq9 hen
    obtain ⟨K2, tl2, hv2, B2, v, E, l, hat2, hgw, ⟨htr, hlen⟩, hhv2, hcod2, hrd2, rfl, rfl⟩ := hq9
    refine X_stk (st' := [.ref v, .ref ll]) rfl ?_
    have hob2 := t_sg.ob _ _ _ htr.2.1
    have hd1 := y_lb_le hgw.1 x1
    change p ≤ q9 ∧ q9 ≤ l_en n R at hen
    refine X_room (cells' := 5 + (8 * (q9 - p) + 8)) (slots' := 20 + (160 * (q9 - p) + 4)) (by show _ + (8 * (q9 - p) + 8) ≤ _; omega) (by show _ + (160 * (q9 - p) + 4) ≤ _; omega) ?_
    refine X_vcallP (rc_B hgw.2.1 hd1.1 hd1.2.1) l_X6_Jx4a65c_add_9ea2d (j_add hG hK hM d (y_none2 hgw.2.1 hgw.2.2.1) (y_lb.s hgw.2.1 hd1) (y_ob_c hgw.2.1 hob2.1 (y_ob_le y_dif_le hob2.2)) (by decide)) rfl rfl rfl rfl (Nat.le_of_ble_eq_true rfl) (Nat.le_of_ble_eq_true rfl) (by omega) (by omega) (by show _ + 10 ≤ _; omega) (fun N9 r9 hq9 => ?_)
    obtain ⟨hA9, rfl⟩ := hq9
    obtain ⟨B3, el3, rfl, b1, b2, b3, b4, b5, b6, -⟩ := y_addB hgw.2.1 hgw.2.2.1 hgw.2.2.2 hd1 hob2.1 (y_ob_le y_dif_le hob2.2) hA9
    clear hA9
    refine X_stk (st' := .int 1 :: []) rfl ?_
    refine X_pop rfl rfl ?_
    obtain ⟨y1, y2, y3, y4⟩ := y_step hh hle hgw b1 b4 b5
    refine X_push (v := .int 0) rfl (by decide +kernel) ?_
    refine X_st rfl rfl rfl ?_
    obtain ⟨g1, g2, kk, g3, g4, g5⟩ := hpk q9 rd1 hR1
    have hnkk : n_ (rd1 9) = kk := by rw [g3]; exact n_nI (by omega)
    rw [hnkk] at htr
    have hlt := z_seg_lt htr.2.2.1
    refine w_cnd hG hK hM hr hn8 hsp hPF hh6 hcol hrd.1 hcol.1 hw6 (p0 := p) (k0 := k) (z := z) (R := R) (fun N rr hq => by rw [show 3 + 2 * r = 1 + 2 * r + 2 by omega]; exact hq) (n - q9 + 1) B3 K2 hv2 rd1 tl2 q9 kk k f' (f' + 1) elA (0 + 1) q ll el3 (0 + 1) 0 (0 + 1) (0 + 1) (updF (fun _ => 0) 0 q) (updF (fun _ => 0) 0 v) z true (fun _ _ => true) (fun _ => E) (fun _ => []) (fun _ => l) _ _ (by omega) (by omega) (by omega) hat2 y2 b2 b3 y1 (y_cs_0 (y_tr_le y4 htr)) rfl ⟨g3, by show 5 * kk + 0 ≤ 2 * q9; omega⟩ g2 hcod2 hrd2 hhv2 ⟨by omega, by omega⟩ (fun _ => by show 3 * ([] ++ l).length + p ≤ q9; rw [List.nil_append]; exact hlen) ⟨by omega, by omega⟩ (by rw [hR0, hR1]; rfl)

