/-! ===== the class: load ===== -/
/-- what load leaves: the cells, and its answer -/
def x_QLd (B : XH) (J bf : Nat → Int32) (su : Nat → Nat) (D : Nat → Nat → Int32) (w b : Nat) (tx : Nat → Int32) (x : Int32) : XH → Option Value → Prop := fun N rr => ∃ (n st : Nat) (ρ : Nat → Nat) (tk2 ts2 : Nat → Int32) (tv2 : Nat → Int64) (J2 : Nat → Int32), (x = nI n ∧ n ≤ b ∧ ρ 1 = st) ∧ x_QT (fun er ea K tl sv nm ty hv B2 ρ2 dd => cset (rset B2 ρ2 (s_n10 w) er ea sv nm ty hv) J2 bf K tk2 ts2 tl tv2 (updN su (s_n10 w) st) (updR D (s_n10 w) dd)) (-1) B ρ (s_cld (D (s_n10 w))) (l_txt tx n) N none ∧ (∀ e a, l_txt tx n = .inl (e, a) → J2 = upd (upd J 1 0) 2 (nI a) ∧ rr = some (.int e)) ∧ ∀ q rd1, l_txt tx n = .inr (q, rd1) → J2 = upd (upd (upd (upd J 1 0) 2 (-1)) 5 (nI (s_n10 w))) 6 (x_min ((upd (upd J 1 0) 2 (-1)) 6 + 1) 8) ∧ rr = some (.int (rd1 2))
theorem m_load {G : XE} (hG : x_Kn G) (hK : x_KS G) (hEx : x_KX G) (hM : x_KM G) {B : XH} {J bf K tk ts : Nat → Int32} {tl : Int64} {tv : Nat → Int64} {su : Nat → Nat} {D : Nat → Nat → Int32} (d w : Nat) (hw : J 5 = nI w) (hw10 : w < 10) {b : Nat} (hb : J 1 = nI b) (hb8 : b ≤ 800) {tx : Nat → Int32} (hr : s_rtx tx bf b) (hB : B 0 = none ∧ B 2 = none) {x : Int32} : x_M G mX10_load (d + 32) (7 + 12 * b) (437 + 292 * b) [.ref 64, .int x] (cset B J bf K tk ts tl tv su D) (x_QLd B J bf su D w b tx x) (x_QxP (0 ≤ x ∧ x ≤ J 1) (cset B J bf K tk ts tl tv su D) "java/lang/IllegalArgumentException") := by
  refine X_M hG okX10_load rfl (L := [some (.ref 64), some (.int x), none]) rfl (Nat.le_of_ble_eq_true rfl) (fun ad0 nb0 => ?_)
  refine X_ld rfl rfl rfl rfl ?_
  refine X_ld rfl rfl rfl rfl ?_
  refine X_vchk c_O l_X10_X10_checkLength (m_checkLength hG hEx (d + 20)) rfl rfl rfl rfl (Nat.le_of_ble_eq_true rfl) (Nat.le_of_ble_eq_true rfl) (by omega) (by omega) (by omega) rfl (fun z => ⟨z, rfl, rfl⟩) (fun hp1 => ?_)
  obtain ⟨n, hn, rfl⟩ := m_rngc hb (by omega) hp1
  refine w_load5 hG hK hM d w hw hw10 (s_rtx_le hr hn) (by omega) hB (by omega) (by omega) (fun r st ρ tk2 ts2 tv2 N9 e0 e1 hq => ?_)
  have hw9 : s_n10 w < 10 := s_n10_lt
  cases hR : l_txt tx n with
  | inl e9 =>
    obtain ⟨e9, a9⟩ := e9
    rw [hR] at hq
    obtain ⟨he9, K2, tl2, sv2, nm2, ty2, hv2, B2, ρ2, dd2, gle, gds, gX, gρ, rfl, -⟩ := hq
    have hr0 : ρ2 0 = r := (gρ 0 (by decide)).trans e0
    refine X_ld rfl rfl rfl rfl ?_
    refine X_ld rfl rfl rfl rfl ?_
    refine X_get f_X10_62 rfl (c_B (by rw [← hr0]; exact gds.o 0 (by decide)) (by rw [← hr0]; exact rs_r)) rfl ?_
    refine X_put f_X10_13 rfl c_O ⟨rfl, rfl⟩ ?_
    refine X_heap (w_O (k := 2) (fun _ => rfl)) ?_
    refine X_ld rfl rfl rfl rfl ?_
    refine X_get f_X10_65 rfl (c_B (by rw [← hr0]; exact gds.o 0 (by decide)) (by rw [← hr0]; exact rs_r)) rfl ?_
    refine X_if_eq rfl (fun c59 => absurd c59 he9) (fun c59 => ?_)
    refine X_ld rfl rfl rfl rfl ?_
    refine X_get f_X10_65 rfl (c_B (by rw [← hr0]; exact gds.o 0 (by decide)) (by rw [← hr0]; exact rs_r)) rfl ?_
    refine X_iret rfl rfl ⟨n, st, ρ, tk2, ts2, tv2, upd (upd J 1 0) 2 (nI a9), ⟨rfl, hn, e1⟩, ?_, fun e a h => ?_, fun q rd1 h => ?_⟩ (by omega) (by omega)
    · rw [hR]; exact ⟨he9, K2, tl2, sv2, nm2, ty2, hv2, B2, ρ2, dd2, gle, gds, gX, gρ, rfl, rfl⟩
    · rw [hR] at h; cases h; exact ⟨rfl, rfl⟩
    · rw [hR] at h; cases h
  | inr x9 =>
    obtain ⟨q9, rd9⟩ := x9
    rw [hR] at hq
    obtain ⟨K2, tl2, sv2, nm2, ty2, hv2, B2, ρ2, dd2, rdS, s, elS, mS, pS, m, l, ⟨gds, gX, gρ⟩, gST, g1, g2, g3, g4, g5, g6, g7, g8, rfl, -⟩ := hq
    have hr0 : ρ2 0 = r := (gρ 0 (by decide)).trans e0
    have hr1 : ρ2 1 = st := (gρ 1 (by decide)).trans e1
    refine X_ld rfl rfl rfl rfl ?_
    refine X_ld rfl rfl rfl rfl ?_
    refine X_get f_X10_62 rfl (c_B (by rw [← hr0]; exact gds.o 0 (by decide)) (by rw [← hr0]; exact rs_r)) rfl ?_
    refine X_put f_X10_13 rfl c_O ⟨rfl, rfl⟩ ?_
    refine X_heap (w_O (k := 2) (fun _ => rfl)) ?_
    refine X_ld rfl rfl rfl rfl ?_
    refine X_get f_X10_65 rfl (c_B (by rw [← hr0]; exact gds.o 0 (by decide)) (by rw [← hr0]; exact rs_r)) rfl ?_
    refine X_if_eq rfl (fun c59 => ?_) (fun c59 => absurd rfl c59)
    refine X_ld rfl rfl rfl rfl ?_
    refine X_vcallv c_O l_X10_X10_takeSpare (m_takeSpare hG d w ((updI_ne (by decide)).trans ((updI_ne (by decide)).trans hw)) hw10) rfl rfl rfl rfl (Nat.le_of_ble_eq_true rfl) (Nat.le_of_ble_eq_true rfl) (by omega) (by omega) (by omega) ?_
    refine X_ld rfl rfl rfl rfl ?_
    refine X_vcall c_O l_X10_X10_current (m_current hG d (s_n10 w) ((updI_ne (by decide)).trans updI_eq) hw9) rfl rfl rfl rfl (Nat.le_of_ble_eq_true rfl) (Nat.le_of_ble_eq_true rfl) (by omega) (by omega) (by omega) ?_
    refine X_get f_X10_75 rfl (r_D hw9 updR_eq) rfl ?_
    refine X_stk (st' := [.ref st]) (congrArg (fun q => [Value.ref q]) updN_eq) ?_
    refine X_get f_X10_79 rfl (c_B (by rw [← hr1]; exact gds.o 1 (by decide)) (by rw [← hr1]; exact rs_st gds)) rfl ?_
    refine X_vcall (rc_B gds gST.2.2.1.1 gST.2.2.1.2.1) l_X10_Jx4a65c_size_8abf5 (j_size hG d (l_at_li (y_le.l (fun k c hk => rs_B gds hk) (y_lb.l gST.2.2.1 (by have := g2.2.2.2.2; omega))))) rfl rfl rfl rfl (Nat.le_of_ble_eq_true rfl) (Nat.le_of_ble_eq_true rfl) (by omega) (by omega) (by omega) ?_
    refine X_iret rfl rfl ⟨n, st, ρ, tk2, ts2, tv2, upd (upd (upd (upd J 1 0) 2 (-1)) 5 (nI (s_n10 w))) 6 (x_min ((upd (upd J 1 0) 2 (-1)) 6 + 1) 8), ⟨rfl, hn, e1⟩, ?_, fun e a h => ?_, fun q rd1 h => ?_⟩ (by omega) (by omega)
    · rw [hR]; exact ⟨K2, tl2, sv2, nm2, ty2, hv2, B2, ρ2, dd2, rdS, s, elS, mS, pS, m, l, ⟨gds, gX, gρ⟩, gST, g1, g2, g3, g4, g5, g6, g7, g8, rfl, rfl⟩
    · rw [hR] at h; cases h
    · rw [hR] at h; cases h; exact ⟨rfl, by rw [g2.2.2.1]⟩

