/-! ===== the class: load, the text is read ===== -/
theorem x_QT_n {FT : Int32 → Int32 → (Nat → Int32) → Int64 → (Nat → Int32) → (Nat → Int64) → (Nat → Int32) → (Nat → Int32) → XH → (Nat → Nat) → (Nat → Int32) → XH} {ea : Int32} {B0 : XH} {ρ : Nat → Nat} {c0 : Nat → Int32} {R : LR} {N : XH} {rr : Option Value} (h : x_QT FT ea B0 ρ c0 R N rr) : rr = none := by
  rcases R with ⟨e, a⟩ | ⟨q, rd1⟩
  · obtain ⟨-, _, _, _, _, _, _, _, _, _, -, -, -, -, -, h⟩ := h
    exact h
  · obtain ⟨_, _, _, _, _, _, _, _, _, _, _, _, _, _, _, _, -, -, -, -, -, -, -, -, -, -, -, h⟩ := h
    exact h
theorem w_load5 {G : XE} (hG : x_Kn G) (hK : x_KS G) (hM : x_KM G) {B : XH} {J bf K tk ts : Nat → Int32} {tl : Int64} {tv : Nat → Int64} {su : Nat → Nat} {D : Nat → Nat → Int32} (d w : Nat) (hw : J 5 = nI w) (hw10 : w < 10) {tx : Nat → Int32} {n : Nat} (hr : s_rtx tx bf n) (hn8 : n ≤ 800) (hB : B 0 = none ∧ B 2 = none) {mc ms nb0 cells slots : Nat} {ad0 : Nat → Nat} {Qn : XH → Option Value → Prop} {Qx : XH → String → Prop} (hc : cells + (6 + 12 * n) ≤ mc) (hs : slots + (431 + 292 * n) ≤ ms) (kk : ∀ (r st : Nat) (ρ : Nat → Nat) (tk2 ts2 : Nat → Int32) (tv2 : Nat → Int64) (N9 : XH), ρ 0 = r → ρ 1 = st → x_QT (fun er ea K tl sv nm ty hv B2 ρ2 dd => cset (rset B2 ρ2 (s_n10 w) er ea sv nm ty hv) (upd J 1 0) bf K tk2 ts2 tl tv2 (updN su (s_n10 w) st) (updR D (s_n10 w) dd)) (-1) B ρ (s_cld (D (s_n10 w))) (l_txt tx n) N9 none → x_W G mX10_load (x_Z G (d + 32) mc ms ad0 nb0 Qn Qx) (N9) (cells + (6 + 12 * n)) (slots + (431 + 292 * n)) 47 [some (.ref 64), some (.int (nI n)), some (.ref r)] []) : x_W G mX10_load (x_Z G (d + 32) mc ms ad0 nb0 Qn Qx) (cset B J bf K tk ts tl tv su D) cells slots 5 [some (.ref 64), some (.int (nI n)), none] [] := by
  have hw9 : s_n10 w < 10 := s_n10_lt
  refine X_ld rfl rfl rfl rfl ?_
  refine X_push (v := .int 0) rfl (by decide +kernel) ?_
  refine X_put f_X10_36 rfl c_O ⟨rfl, rfl⟩ ?_
  refine X_heap (w_O (k := 1) (fun _ => rfl)) ?_
  refine X_ld rfl rfl rfl rfl ?_
  refine X_get f_X10_20 rfl c_O rfl ?_
  refine X_ld rfl rfl rfl rfl ?_
  refine X_get f_X10_9 rfl c_O rfl ?_
  refine X_ld rfl rfl rfl rfl ?_
  refine X_vcallP c_T l_X10_X8_split (p_split hG hK d hr hn8) rfl rfl rfl rfl (Nat.le_of_ble_eq_true rfl) (Nat.le_of_ble_eq_true rfl) (by omega) (by omega) (by omega) (fun N1 r9 hq => ?_)
  obtain ⟨c, tk2, ts2, tv2, hsp, rfl, rfl⟩ := hq
  refine X_stk (st' := []) rfl ?_
  refine X_newK n_X10_50 rfl (by show _ + 1 ≤ mc; omega) (by show _ + 6 ≤ ms; omega) (x_K_any (y_none0 hB.1) (fun r n0 h64 => ?_))
  obtain ⟨sr, br⟩ := y_free n0
  refine X_heap (y_set sr) ?_
  refine X_dup rfl rfl ?_
  refine X_ld rfl rfl rfl rfl ?_
  refine X_get f_X10_20 rfl c_O rfl ?_
  refine X_ld rfl rfl rfl rfl ?_
  refine X_get f_X10_26 rfl c_O rfl ?_
  refine X_ld rfl rfl rfl rfl ?_
  refine X_vcall c_O l_X10_X10_spareSlot (m_spareSlot hG d w ((updI_ne (by decide)).trans hw) hw10) rfl rfl rfl rfl (Nat.le_of_ble_eq_true rfl) (Nat.le_of_ble_eq_true rfl) (by omega) (by omega) (by omega) ?_
  refine X_aald rfl c_SL rfl (vp_in_nI hw9 (by omega)) (v := .ref (75 + 20 * s_n10 w)) (by rw [nI_clamp (by omega)]) ?_
  refine X_icallP l_X10_X6_init (p_X6init hG hK hM d (y_none0 ((x_set_ne (by omega)).trans hB.1)) (i := s_n10 w) (c_B sr x_set_eq)) rfl rfl rfl (Nat.le_of_ble_eq_true rfl) (Nat.le_of_ble_eq_true rfl) (by omega) (by omega) (by omega) (fun N1 r9 hq => ?_)
  obtain ⟨st, a1, a2, a3, ht, ⟨n1, n2, n3, n4, n5⟩, ⟨g1, g2, g3, g4, g5⟩, ⟨d1, d2, d3, d4, d5, d6⟩, ⟨u1, u2, u3, u4⟩, rfl, rfl⟩ := hq
  obtain ⟨st9, bt⟩ := y_free n1
  obtain ⟨s1, b1⟩ := y_free n2
  obtain ⟨s2, b2⟩ := y_free n3
  obtain ⟨s3, b3⟩ := y_free n4
  obtain ⟨sh, bh⟩ := y_free n5
  have et : st ≠ r := fun e => by rw [e, x_set_eq] at bt; cases bt
  rw [x_set_ne et] at bt
  have e1 : a1 ≠ r := fun e => by rw [e, x_set_eq] at b1; cases b1
  rw [x_set_ne e1] at b1
  have e2 : a2 ≠ r := fun e => by rw [e, x_set_eq] at b2; cases b2
  rw [x_set_ne e2] at b2
  have e3 : a3 ≠ r := fun e => by rw [e, x_set_eq] at b3; cases b3
  rw [x_set_ne e3] at b3
  have eh : ht ≠ r := fun e => by rw [e, x_set_eq] at bh; cases bh
  rw [x_set_ne eh] at bh
  refine X_heap (by rw [y_set s1, y_set s2, y_set s3, y_set st9, y_set sh, y_set sr, y_new6 et e1 e2 e3 eh d1 d2 d3 d4 d5 d6 u1 u2 u3 u4]) ?_
  refine X_stk (st' := [.ref r]) rfl ?_
  refine X_st rfl rfl rfl ?_
  have hρ : y_ds (y_rho r st a1 a2 ht a3) (x_set B a3 (.inl (0, lV 0 2 0))) := y_ds_new ⟨sr, br, h64⟩ ⟨st9, bt, g1⟩ ⟨s1, b1, g2⟩ ⟨s2, b2, g3⟩ ⟨sh, bh, g5⟩ et e1 e2 e3 eh d1 d2 d3 d4 d5 d6 u1 u2 u3 u4
  have hX2 : (x_set B a3 (.inl (0, lV 0 2 0))) 0 = none ∧ (x_set B a3 (.inl (0, lV 0 2 0))) 2 = none := ⟨(x_set_ne (by omega)).trans hB.1, (x_set_ne (by omega)).trans hB.2⟩
  have hST := y_ST_0 (hv := fun _ => 0) (pS := fun _ => 0) hB.2 br bt b1 b2 bh ⟨s3, b3⟩
  refine X_ld rfl rfl rfl rfl ?_
  refine X_vcallP (c_B (hρ.o 0 (by decide)) rs_r) l_X10_X6_readSetup (p_readSetup hG hK hM hρ d hr hn8 hsp updI_eq ((updI_ne (by decide)).trans updI_eq) hX2 hST hw9 rfl (fun _ _ _ => rfl)) rfl rfl rfl rfl (Nat.le_of_ble_eq_true rfl) (Nat.le_of_ble_eq_true rfl) (by omega) (by omega) (by omega) (fun N1 r9 hq => ?_)
  have hr9 : r9 = none := x_QT_n hq
  subst hr9
  refine X_stk (st' := []) rfl ?_
  refine X_room (cells' := cells + (6 + 12 * n)) (slots' := slots + (431 + 292 * n)) (by omega) (by omega) ?_
  exact kk r st (y_rho r st a1 a2 ht a3) tk2 ts2 tv2 N1 rfl rfl hq

